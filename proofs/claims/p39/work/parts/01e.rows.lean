theorem dL_read_10 : decode cL_read 10 = .ok (.aload_n 0, 1) := by decide +kernel
theorem dL_read_11 : decode cL_read 11 = .ok (.aload_n 1, 1) := by decide +kernel
theorem dL_read_12 : decode cL_read 12 = .ok (.iload_n 2, 1) := by decide +kernel
theorem dL_read_13 : decode cL_read 13 = .ok (.invokevirtual 105, 3) := by decide +kernel
theorem dL_read_16 : decode cL_read 16 = .ok (.invokestatic 109, 3) := by decide +kernel
theorem dL_read_19 : decode cL_read 19 = .ok (.iload_n 2, 1) := by decide +kernel
theorem dL_read_20 : decode cL_read 20 = .ok (.iconst 1, 1) := by decide +kernel
theorem dL_read_21 : decode cL_read 21 = .ok (.iadd, 1) := by decide +kernel
theorem dL_read_22 : decode cL_read 22 = .ok (.if_icmp .eq 6, 3) := by decide +kernel
theorem dL_read_25 : decode cL_read 25 = .ok (.bipush (-9), 2) := by decide +kernel
theorem dL_read_27 : decode cL_read 27 = .ok (.ireturn, 1) := by decide +kernel
theorem dL_read_28 : decode cL_read 28 = .ok (.iinc 2 1, 3) := by decide +kernel
theorem dL_read_31 : decode cL_read 31 = .ok (.goto (-29), 3) := by decide +kernel
theorem dL_read_34 : decode cL_read 34 = .ok (.aload_n 0, 1) := by decide +kernel
theorem dL_read_35 : decode cL_read 35 = .ok (.invokestatic 114, 3) := by decide +kernel
theorem dL_read_38 : decode cL_read 38 = .ok (.ireturn, 1) := by decide +kernel
theorem dL_refusal_0 : decode cL_refusal 0 = .ok (.aload_n 0, 1) := by decide +kernel
theorem dL_refusal_1 : decode cL_refusal 1 = .ok (.iload_n 1, 1) := by decide +kernel
theorem dL_refusal_2 : decode cL_refusal 2 = .ok (.invokevirtual 118, 3) := by decide +kernel
theorem dL_refusal_5 : decode cL_refusal 5 = .ok (.ireturn, 1) := by decide +kernel
theorem dL_refusal_6 : decode cL_refusal 6 = .ok (.astore_n 2, 1) := by decide +kernel
theorem dL_refusal_7 : decode cL_refusal 7 = .ok (.bipush (-101), 2) := by decide +kernel
theorem dL_refusal_9 : decode cL_refusal 9 = .ok (.ireturn, 1) := by decide +kernel
theorem dL_undo_0 : decode cL_undo 0 = .ok (.aload_n 0, 1) := by decide +kernel
theorem dL_undo_1 : decode cL_undo 1 = .ok (.invokevirtual 122, 3) := by decide +kernel
theorem dL_undo_4 : decode cL_undo 4 = .ok (.ireturn, 1) := by decide +kernel
theorem dL_undo_5 : decode cL_undo 5 = .ok (.astore_n 1, 1) := by decide +kernel
theorem dL_undo_6 : decode cL_undo 6 = .ok (.iconst (-1), 1) := by decide +kernel
theorem dL_undo_7 : decode cL_undo 7 = .ok (.ireturn, 1) := by decide +kernel
theorem dL_drawn_0 : decode cL_drawn 0 = .ok (.new 9, 3) := by decide +kernel
theorem dL_drawn_3 : decode cL_drawn 3 = .ok (.dup, 1) := by decide +kernel
theorem dL_drawn_4 : decode cL_drawn 4 = .ok (.invokespecial 125, 3) := by decide +kernel
theorem dL_drawn_7 : decode cL_drawn 7 = .ok (.astore_n 1, 1) := by decide +kernel
theorem dL_drawn_8 : decode cL_drawn 8 = .ok (.aload_n 0, 1) := by decide +kernel
theorem dL_drawn_9 : decode cL_drawn 9 = .ok (.iconst 0, 1) := by decide +kernel
theorem dL_drawn_10 : decode cL_drawn 10 = .ok (.invokestatic 126, 3) := by decide +kernel
theorem dL_drawn_13 : decode cL_drawn 13 = .ok (.iconst 1, 1) := by decide +kernel
theorem dL_drawn_14 : decode cL_drawn 14 = .ok (.iushr, 1) := by decide +kernel
theorem dL_drawn_15 : decode cL_drawn 15 = .ok (.istore_n 2, 1) := by decide +kernel
theorem dL_drawn_16 : decode cL_drawn 16 = .ok (.iconst 2, 1) := by decide +kernel
theorem dL_drawn_17 : decode cL_drawn 17 = .ok (.iload_n 2, 1) := by decide +kernel
theorem dL_drawn_18 : decode cL_drawn 18 = .ok (.iconst 5, 1) := by decide +kernel
theorem dL_drawn_19 : decode cL_drawn 19 = .ok (.irem, 1) := by decide +kernel
theorem dL_drawn_20 : decode cL_drawn 20 = .ok (.iadd, 1) := by decide +kernel
theorem dL_drawn_21 : decode cL_drawn 21 = .ok (.istore_n 3, 1) := by decide +kernel
theorem dL_drawn_22 : decode cL_drawn 22 = .ok (.iconst 0, 1) := by decide +kernel
theorem dL_drawn_23 : decode cL_drawn 23 = .ok (.istore 4, 2) := by decide +kernel
theorem dL_drawn_25 : decode cL_drawn 25 = .ok (.iload 4, 2) := by decide +kernel
theorem dL_drawn_27 : decode cL_drawn 27 = .ok (.iload_n 3, 1) := by decide +kernel
theorem dL_drawn_28 : decode cL_drawn 28 = .ok (.if_icmp .ge 32, 3) := by decide +kernel
theorem dL_drawn_31 : decode cL_drawn 31 = .ok (.aload_n 1, 1) := by decide +kernel
theorem dL_drawn_32 : decode cL_drawn 32 = .ok (.iconst 1, 1) := by decide +kernel
theorem dL_drawn_33 : decode cL_drawn 33 = .ok (.iload_n 2, 1) := by decide +kernel
theorem dL_drawn_34 : decode cL_drawn 34 = .ok (.iconst 3, 1) := by decide +kernel
theorem dL_drawn_35 : decode cL_drawn 35 = .ok (.iconst 2, 1) := by decide +kernel
theorem dL_drawn_36 : decode cL_drawn 36 = .ok (.iload 4, 2) := by decide +kernel
theorem dL_drawn_38 : decode cL_drawn 38 = .ok (.imul, 1) := by decide +kernel
theorem dL_drawn_39 : decode cL_drawn 39 = .ok (.iadd, 1) := by decide +kernel
theorem dL_drawn_40 : decode cL_drawn 40 = .ok (.iushr, 1) := by decide +kernel
theorem dL_drawn_41 : decode cL_drawn 41 = .ok (.iconst 3, 1) := by decide +kernel
theorem dL_drawn_42 : decode cL_drawn 42 = .ok (.irem, 1) := by decide +kernel
theorem dL_drawn_43 : decode cL_drawn 43 = .ok (.iadd, 1) := by decide +kernel
theorem dL_drawn_44 : decode cL_drawn 44 = .ok (.invokestatic 130, 3) := by decide +kernel
theorem dL_drawn_47 : decode cL_drawn 47 = .ok (.iload 4, 2) := by decide +kernel
theorem dL_drawn_49 : decode cL_drawn 49 = .ok (.if_icmp .eq 5, 3) := by decide +kernel
theorem dL_drawn_52 : decode cL_drawn 52 = .ok (.aconst_null, 1) := by decide +kernel
theorem dL_drawn_53 : decode cL_drawn 53 = .ok (.areturn, 1) := by decide +kernel
theorem dL_drawn_54 : decode cL_drawn 54 = .ok (.iinc 4 1, 3) := by decide +kernel
theorem dL_drawn_57 : decode cL_drawn 57 = .ok (.goto (-32), 3) := by decide +kernel
theorem dL_drawn_60 : decode cL_drawn 60 = .ok (.iconst 1, 1) := by decide +kernel
theorem dL_drawn_61 : decode cL_drawn 61 = .ok (.iload_n 2, 1) := by decide +kernel
theorem dL_drawn_62 : decode cL_drawn 62 = .ok (.bipush 16, 2) := by decide +kernel
theorem dL_drawn_64 : decode cL_drawn 64 = .ok (.iushr, 1) := by decide +kernel
theorem dL_drawn_65 : decode cL_drawn 65 = .ok (.iconst 4, 1) := by decide +kernel
theorem dL_drawn_66 : decode cL_drawn 66 = .ok (.irem, 1) := by decide +kernel
theorem dL_drawn_67 : decode cL_drawn 67 = .ok (.iadd, 1) := by decide +kernel
theorem dL_drawn_68 : decode cL_drawn 68 = .ok (.istore 4, 2) := by decide +kernel
theorem dL_drawn_70 : decode cL_drawn 70 = .ok (.iconst 0, 1) := by decide +kernel
theorem dL_drawn_71 : decode cL_drawn 71 = .ok (.istore 5, 2) := by decide +kernel
theorem dL_drawn_73 : decode cL_drawn 73 = .ok (.iload 5, 2) := by decide +kernel
theorem dL_drawn_75 : decode cL_drawn 75 = .ok (.iload 4, 2) := by decide +kernel
theorem dL_drawn_77 : decode cL_drawn 77 = .ok (.if_icmp .ge 33, 3) := by decide +kernel
theorem dL_drawn_80 : decode cL_drawn 80 = .ok (.aload_n 1, 1) := by decide +kernel
theorem dL_drawn_81 : decode cL_drawn 81 = .ok (.aload_n 0, 1) := by decide +kernel
theorem dL_drawn_82 : decode cL_drawn 82 = .ok (.iconst 1, 1) := by decide +kernel
theorem dL_drawn_83 : decode cL_drawn 83 = .ok (.iload 5, 2) := by decide +kernel
theorem dL_drawn_85 : decode cL_drawn 85 = .ok (.iadd, 1) := by decide +kernel
theorem dL_drawn_86 : decode cL_drawn 86 = .ok (.invokestatic 126, 3) := by decide +kernel
theorem dL_drawn_89 : decode cL_drawn 89 = .ok (.iconst 1, 1) := by decide +kernel
theorem dL_drawn_90 : decode cL_drawn 90 = .ok (.iushr, 1) := by decide +kernel
theorem dL_drawn_91 : decode cL_drawn 91 = .ok (.bipush 10, 2) := by decide +kernel
theorem dL_drawn_93 : decode cL_drawn 93 = .ok (.irem, 1) := by decide +kernel
theorem dL_drawn_94 : decode cL_drawn 94 = .ok (.invokestatic 133, 3) := by decide +kernel
theorem dL_drawn_97 : decode cL_drawn 97 = .ok (.iload 5, 2) := by decide +kernel
theorem dL_drawn_99 : decode cL_drawn 99 = .ok (.if_icmp .eq 5, 3) := by decide +kernel
theorem dL_drawn_102 : decode cL_drawn 102 = .ok (.aconst_null, 1) := by decide +kernel
theorem dL_drawn_103 : decode cL_drawn 103 = .ok (.areturn, 1) := by decide +kernel
theorem dL_drawn_104 : decode cL_drawn 104 = .ok (.iinc 5 1, 3) := by decide +kernel
theorem dL_drawn_107 : decode cL_drawn 107 = .ok (.goto (-34), 3) := by decide +kernel
theorem dL_drawn_110 : decode cL_drawn 110 = .ok (.iconst 1, 1) := by decide +kernel
theorem dL_drawn_111 : decode cL_drawn 111 = .ok (.iload_n 2, 1) := by decide +kernel
theorem dL_drawn_112 : decode cL_drawn 112 = .ok (.bipush 19, 2) := by decide +kernel
theorem dL_drawn_114 : decode cL_drawn 114 = .ok (.iushr, 1) := by decide +kernel
theorem dL_drawn_115 : decode cL_drawn 115 = .ok (.iconst 4, 1) := by decide +kernel
theorem dL_drawn_116 : decode cL_drawn 116 = .ok (.irem, 1) := by decide +kernel
theorem dL_drawn_117 : decode cL_drawn 117 = .ok (.iadd, 1) := by decide +kernel
theorem dL_drawn_118 : decode cL_drawn 118 = .ok (.istore 5, 2) := by decide +kernel
theorem dL_drawn_120 : decode cL_drawn 120 = .ok (.iconst 0, 1) := by decide +kernel
theorem dL_drawn_121 : decode cL_drawn 121 = .ok (.istore 6, 2) := by decide +kernel
theorem dL_drawn_123 : decode cL_drawn 123 = .ok (.iload 6, 2) := by decide +kernel
theorem dL_drawn_125 : decode cL_drawn 125 = .ok (.iload 5, 2) := by decide +kernel
theorem dL_drawn_127 : decode cL_drawn 127 = .ok (.if_icmp .ge 20, 3) := by decide +kernel
theorem dL_drawn_130 : decode cL_drawn 130 = .ok (.aload_n 1, 1) := by decide +kernel
theorem dL_drawn_131 : decode cL_drawn 131 = .ok (.invokestatic 135, 3) := by decide +kernel
theorem dL_drawn_134 : decode cL_drawn 134 = .ok (.iload 6, 2) := by decide +kernel
theorem dL_drawn_136 : decode cL_drawn 136 = .ok (.if_icmp .eq 5, 3) := by decide +kernel
theorem dL_drawn_139 : decode cL_drawn 139 = .ok (.aconst_null, 1) := by decide +kernel
theorem dL_drawn_140 : decode cL_drawn 140 = .ok (.areturn, 1) := by decide +kernel
theorem dL_drawn_141 : decode cL_drawn 141 = .ok (.iinc 6 1, 3) := by decide +kernel
theorem dL_drawn_144 : decode cL_drawn 144 = .ok (.goto (-21), 3) := by decide +kernel
theorem dL_drawn_147 : decode cL_drawn 147 = .ok (.bipush 14, 2) := by decide +kernel
theorem dL_drawn_149 : decode cL_drawn 149 = .ok (.iload_n 2, 1) := by decide +kernel
theorem dL_drawn_150 : decode cL_drawn 150 = .ok (.bipush 22, 2) := by decide +kernel
theorem dL_drawn_152 : decode cL_drawn 152 = .ok (.iushr, 1) := by decide +kernel
theorem dL_drawn_153 : decode cL_drawn 153 = .ok (.bipush 40, 2) := by decide +kernel
theorem dL_drawn_155 : decode cL_drawn 155 = .ok (.irem, 1) := by decide +kernel
theorem dL_drawn_156 : decode cL_drawn 156 = .ok (.iadd, 1) := by decide +kernel
theorem dL_drawn_157 : decode cL_drawn 157 = .ok (.istore 6, 2) := by decide +kernel
theorem dL_drawn_159 : decode cL_drawn 159 = .ok (.iconst 0, 1) := by decide +kernel
theorem dL_drawn_160 : decode cL_drawn 160 = .ok (.istore 7, 2) := by decide +kernel
theorem dL_drawn_162 : decode cL_drawn 162 = .ok (.iload 7, 2) := by decide +kernel
theorem dL_drawn_164 : decode cL_drawn 164 = .ok (.iload 6, 2) := by decide +kernel
theorem dL_drawn_166 : decode cL_drawn 166 = .ok (.if_icmp .ge 352, 3) := by decide +kernel
theorem dL_drawn_169 : decode cL_drawn 169 = .ok (.aload_n 0, 1) := by decide +kernel
theorem dL_drawn_170 : decode cL_drawn 170 = .ok (.iconst 5, 1) := by decide +kernel
theorem dL_drawn_171 : decode cL_drawn 171 = .ok (.iload 7, 2) := by decide +kernel
theorem dL_drawn_173 : decode cL_drawn 173 = .ok (.iadd, 1) := by decide +kernel
theorem dL_drawn_174 : decode cL_drawn 174 = .ok (.invokestatic 126, 3) := by decide +kernel
theorem dL_drawn_177 : decode cL_drawn 177 = .ok (.iconst 1, 1) := by decide +kernel
theorem dL_drawn_178 : decode cL_drawn 178 = .ok (.iushr, 1) := by decide +kernel
theorem dL_drawn_179 : decode cL_drawn 179 = .ok (.istore 8, 2) := by decide +kernel
theorem dL_drawn_181 : decode cL_drawn 181 = .ok (.iload 8, 2) := by decide +kernel
theorem dL_drawn_183 : decode cL_drawn 183 = .ok (.iconst 4, 1) := by decide +kernel
theorem dL_drawn_184 : decode cL_drawn 184 = .ok (.iushr, 1) := by decide +kernel
theorem dL_drawn_185 : decode cL_drawn 185 = .ok (.iload 4, 2) := by decide +kernel
theorem dL_drawn_187 : decode cL_drawn 187 = .ok (.irem, 1) := by decide +kernel
theorem dL_drawn_188 : decode cL_drawn 188 = .ok (.istore 9, 2) := by decide +kernel
theorem dL_drawn_190 : decode cL_drawn 190 = .ok (.iload 8, 2) := by decide +kernel
theorem dL_drawn_192 : decode cL_drawn 192 = .ok (.bipush 7, 2) := by decide +kernel
theorem dL_drawn_194 : decode cL_drawn 194 = .ok (.iushr, 1) := by decide +kernel
theorem dL_drawn_195 : decode cL_drawn 195 = .ok (.iload_n 3, 1) := by decide +kernel
theorem dL_drawn_196 : decode cL_drawn 196 = .ok (.irem, 1) := by decide +kernel
theorem dL_drawn_197 : decode cL_drawn 197 = .ok (.istore 10, 2) := by decide +kernel
theorem dL_drawn_199 : decode cL_drawn 199 = .ok (.iload 8, 2) := by decide +kernel
theorem dL_drawn_201 : decode cL_drawn 201 = .ok (.bipush 15, 2) := by decide +kernel
theorem dL_drawn_203 : decode cL_drawn 203 = .ok (.irem, 1) := by decide +kernel
theorem dL_drawn_204 : decode cL_drawn 204 = .ok (.tableswitch 261 0 11 #[64, 64, 77, 88, 88, 107, 151, 151, 151, 162, 181, 199], 64) := by decide +kernel
theorem dL_drawn_268 : decode cL_drawn 268 = .ok (.aload_n 1, 1) := by decide +kernel
theorem dL_drawn_269 : decode cL_drawn 269 = .ok (.iload 10, 2) := by decide +kernel
theorem dL_drawn_271 : decode cL_drawn 271 = .ok (.iload 9, 2) := by decide +kernel
theorem dL_drawn_273 : decode cL_drawn 273 = .ok (.invokestatic 137, 3) := by decide +kernel
theorem dL_drawn_276 : decode cL_drawn 276 = .ok (.istore 11, 2) := by decide +kernel
theorem dL_drawn_278 : decode cL_drawn 278 = .ok (.goto 202, 3) := by decide +kernel
theorem dL_drawn_281 : decode cL_drawn 281 = .ok (.aload_n 1, 1) := by decide +kernel
theorem dL_drawn_282 : decode cL_drawn 282 = .ok (.iload 10, 2) := by decide +kernel
theorem dL_drawn_284 : decode cL_drawn 284 = .ok (.invokestatic 140, 3) := by decide +kernel
theorem dL_drawn_287 : decode cL_drawn 287 = .ok (.istore 11, 2) := by decide +kernel
theorem dL_drawn_289 : decode cL_drawn 289 = .ok (.goto 191, 3) := by decide +kernel
theorem dL_drawn_292 : decode cL_drawn 292 = .ok (.aload_n 1, 1) := by decide +kernel
theorem dL_drawn_293 : decode cL_drawn 293 = .ok (.iload 8, 2) := by decide +kernel
theorem dL_drawn_295 : decode cL_drawn 295 = .ok (.bipush 7, 2) := by decide +kernel
theorem dL_drawn_297 : decode cL_drawn 297 = .ok (.iushr, 1) := by decide +kernel
theorem dL_drawn_298 : decode cL_drawn 298 = .ok (.iload 5, 2) := by decide +kernel
theorem dL_drawn_300 : decode cL_drawn 300 = .ok (.irem, 1) := by decide +kernel
theorem dL_drawn_301 : decode cL_drawn 301 = .ok (.iload 9, 2) := by decide +kernel
theorem dL_drawn_303 : decode cL_drawn 303 = .ok (.invokestatic 142, 3) := by decide +kernel
theorem dL_drawn_306 : decode cL_drawn 306 = .ok (.istore 11, 2) := by decide +kernel
theorem dL_drawn_308 : decode cL_drawn 308 = .ok (.goto 172, 3) := by decide +kernel
theorem dL_drawn_311 : decode cL_drawn 311 = .ok (.iload 8, 2) := by decide +kernel
theorem dL_drawn_313 : decode cL_drawn 313 = .ok (.bipush 30, 2) := by decide +kernel
theorem dL_drawn_315 : decode cL_drawn 315 = .ok (.irem, 1) := by decide +kernel
theorem dL_drawn_316 : decode cL_drawn 316 = .ok (.bipush 15, 2) := by decide +kernel
theorem dL_drawn_318 : decode cL_drawn 318 = .ok (.if_icmp .ge 18, 3) := by decide +kernel
theorem dL_drawn_321 : decode cL_drawn 321 = .ok (.aload_n 1, 1) := by decide +kernel
theorem dL_drawn_322 : decode cL_drawn 322 = .ok (.iload 8, 2) := by decide +kernel
theorem dL_drawn_324 : decode cL_drawn 324 = .ok (.bipush 7, 2) := by decide +kernel
theorem dL_drawn_326 : decode cL_drawn 326 = .ok (.iushr, 1) := by decide +kernel
theorem dL_drawn_327 : decode cL_drawn 327 = .ok (.iload 5, 2) := by decide +kernel
theorem dL_drawn_329 : decode cL_drawn 329 = .ok (.irem, 1) := by decide +kernel
theorem dL_drawn_330 : decode cL_drawn 330 = .ok (.invokestatic 144, 3) := by decide +kernel
theorem dL_drawn_333 : decode cL_drawn 333 = .ok (.goto 17, 3) := by decide +kernel
theorem dL_drawn_336 : decode cL_drawn 336 = .ok (.aload_n 1, 1) := by decide +kernel
theorem dL_drawn_337 : decode cL_drawn 337 = .ok (.iload 10, 2) := by decide +kernel
theorem dL_drawn_339 : decode cL_drawn 339 = .ok (.iload 8, 2) := by decide +kernel
theorem dL_drawn_341 : decode cL_drawn 341 = .ok (.bipush 10, 2) := by decide +kernel
theorem dL_drawn_343 : decode cL_drawn 343 = .ok (.iushr, 1) := by decide +kernel
theorem dL_drawn_344 : decode cL_drawn 344 = .ok (.bipush 8, 2) := by decide +kernel
theorem dL_drawn_346 : decode cL_drawn 346 = .ok (.irem, 1) := by decide +kernel
theorem dL_drawn_347 : decode cL_drawn 347 = .ok (.invokestatic 146, 3) := by decide +kernel
theorem dL_drawn_350 : decode cL_drawn 350 = .ok (.istore 11, 2) := by decide +kernel
theorem dL_drawn_352 : decode cL_drawn 352 = .ok (.goto 128, 3) := by decide +kernel
theorem dL_drawn_355 : decode cL_drawn 355 = .ok (.aload_n 1, 1) := by decide +kernel
theorem dL_drawn_356 : decode cL_drawn 356 = .ok (.iload 9, 2) := by decide +kernel
theorem dL_drawn_358 : decode cL_drawn 358 = .ok (.invokestatic 148, 3) := by decide +kernel
theorem dL_drawn_361 : decode cL_drawn 361 = .ok (.istore 11, 2) := by decide +kernel
theorem dL_drawn_363 : decode cL_drawn 363 = .ok (.goto 117, 3) := by decide +kernel
theorem dL_drawn_366 : decode cL_drawn 366 = .ok (.aload_n 1, 1) := by decide +kernel
theorem dL_drawn_367 : decode cL_drawn 367 = .ok (.iload 10, 2) := by decide +kernel
theorem dL_drawn_369 : decode cL_drawn 369 = .ok (.iload 8, 2) := by decide +kernel
theorem dL_drawn_371 : decode cL_drawn 371 = .ok (.bipush 10, 2) := by decide +kernel
theorem dL_drawn_373 : decode cL_drawn 373 = .ok (.iushr, 1) := by decide +kernel
theorem dL_drawn_374 : decode cL_drawn 374 = .ok (.bipush 8, 2) := by decide +kernel
theorem dL_drawn_376 : decode cL_drawn 376 = .ok (.irem, 1) := by decide +kernel
theorem dL_drawn_377 : decode cL_drawn 377 = .ok (.invokestatic 150, 3) := by decide +kernel
theorem dL_drawn_380 : decode cL_drawn 380 = .ok (.istore 11, 2) := by decide +kernel
theorem dL_drawn_382 : decode cL_drawn 382 = .ok (.goto 98, 3) := by decide +kernel
theorem dL_drawn_385 : decode cL_drawn 385 = .ok (.aload_n 1, 1) := by decide +kernel
theorem dL_drawn_386 : decode cL_drawn 386 = .ok (.iconst 1, 1) := by decide +kernel
theorem dL_drawn_387 : decode cL_drawn 387 = .ok (.iload 8, 2) := by decide +kernel
theorem dL_drawn_389 : decode cL_drawn 389 = .ok (.bipush 7, 2) := by decide +kernel
theorem dL_drawn_391 : decode cL_drawn 391 = .ok (.iushr, 1) := by decide +kernel
theorem dL_drawn_392 : decode cL_drawn 392 = .ok (.iconst 4, 1) := by decide +kernel
theorem dL_drawn_393 : decode cL_drawn 393 = .ok (.irem, 1) := by decide +kernel
theorem dL_drawn_394 : decode cL_drawn 394 = .ok (.iadd, 1) := by decide +kernel
theorem dL_drawn_395 : decode cL_drawn 395 = .ok (.invokestatic 152, 3) := by decide +kernel
theorem dL_drawn_398 : decode cL_drawn 398 = .ok (.istore 11, 2) := by decide +kernel
theorem dL_drawn_400 : decode cL_drawn 400 = .ok (.goto 80, 3) := by decide +kernel
theorem dL_drawn_403 : decode cL_drawn 403 = .ok (.iload 8, 2) := by decide +kernel
theorem dL_drawn_405 : decode cL_drawn 405 = .ok (.bipush 30, 2) := by decide +kernel
theorem dL_drawn_407 : decode cL_drawn 407 = .ok (.irem, 1) := by decide +kernel
theorem dL_drawn_408 : decode cL_drawn 408 = .ok (.bipush 15, 2) := by decide +kernel
theorem dL_drawn_410 : decode cL_drawn 410 = .ok (.if_icmp .ge 19, 3) := by decide +kernel
theorem dL_drawn_413 : decode cL_drawn 413 = .ok (.aload_n 1, 1) := by decide +kernel
theorem dL_drawn_414 : decode cL_drawn 414 = .ok (.iconst 1, 1) := by decide +kernel
theorem dL_drawn_415 : decode cL_drawn 415 = .ok (.iload 8, 2) := by decide +kernel
theorem dL_drawn_417 : decode cL_drawn 417 = .ok (.bipush 7, 2) := by decide +kernel
theorem dL_drawn_419 : decode cL_drawn 419 = .ok (.iushr, 1) := by decide +kernel
theorem dL_drawn_420 : decode cL_drawn 420 = .ok (.iconst 3, 1) := by decide +kernel
theorem dL_drawn_421 : decode cL_drawn 421 = .ok (.irem, 1) := by decide +kernel
theorem dL_drawn_422 : decode cL_drawn 422 = .ok (.iadd, 1) := by decide +kernel
theorem dL_drawn_423 : decode cL_drawn 423 = .ok (.invokestatic 154, 3) := by decide +kernel
theorem dL_drawn_426 : decode cL_drawn 426 = .ok (.goto 34, 3) := by decide +kernel
theorem dL_drawn_429 : decode cL_drawn 429 = .ok (.aload_n 1, 1) := by decide +kernel
theorem dL_drawn_430 : decode cL_drawn 430 = .ok (.iload 8, 2) := by decide +kernel
theorem dL_drawn_432 : decode cL_drawn 432 = .ok (.bipush 7, 2) := by decide +kernel
theorem dL_drawn_434 : decode cL_drawn 434 = .ok (.iushr, 1) := by decide +kernel
theorem dL_drawn_435 : decode cL_drawn 435 = .ok (.iload 5, 2) := by decide +kernel
theorem dL_drawn_437 : decode cL_drawn 437 = .ok (.irem, 1) := by decide +kernel
theorem dL_drawn_438 : decode cL_drawn 438 = .ok (.iconst 1, 1) := by decide +kernel
theorem dL_drawn_439 : decode cL_drawn 439 = .ok (.iload 8, 2) := by decide +kernel
theorem dL_drawn_441 : decode cL_drawn 441 = .ok (.bipush 9, 2) := by decide +kernel
theorem dL_drawn_443 : decode cL_drawn 443 = .ok (.iushr, 1) := by decide +kernel
theorem dL_drawn_444 : decode cL_drawn 444 = .ok (.iconst 3, 1) := by decide +kernel
theorem dL_drawn_445 : decode cL_drawn 445 = .ok (.irem, 1) := by decide +kernel
theorem dL_drawn_446 : decode cL_drawn 446 = .ok (.iadd, 1) := by decide +kernel
theorem dL_drawn_447 : decode cL_drawn 447 = .ok (.invokestatic 156, 3) := by decide +kernel
theorem dL_drawn_450 : decode cL_drawn 450 = .ok (.iconst (-1), 1) := by decide +kernel
theorem dL_drawn_451 : decode cL_drawn 451 = .ok (.if_icmp .ge 8, 3) := by decide +kernel
theorem dL_drawn_454 : decode cL_drawn 454 = .ok (.bipush (-2), 2) := by decide +kernel
theorem dL_drawn_456 : decode cL_drawn 456 = .ok (.goto 4, 3) := by decide +kernel
theorem dL_drawn_459 : decode cL_drawn 459 = .ok (.iconst 0, 1) := by decide +kernel
theorem dL_drawn_460 : decode cL_drawn 460 = .ok (.istore 11, 2) := by decide +kernel
theorem dL_drawn_462 : decode cL_drawn 462 = .ok (.goto 18, 3) := by decide +kernel
theorem dL_drawn_465 : decode cL_drawn 465 = .ok (.aload_n 1, 1) := by decide +kernel
theorem dL_drawn_466 : decode cL_drawn 466 = .ok (.iconst 1, 1) := by decide +kernel
theorem dL_drawn_467 : decode cL_drawn 467 = .ok (.iload 8, 2) := by decide +kernel
theorem dL_drawn_469 : decode cL_drawn 469 = .ok (.iconst 4, 1) := by decide +kernel
theorem dL_drawn_470 : decode cL_drawn 470 = .ok (.iushr, 1) := by decide +kernel
theorem dL_drawn_471 : decode cL_drawn 471 = .ok (.bipush 9, 2) := by decide +kernel
theorem dL_drawn_473 : decode cL_drawn 473 = .ok (.irem, 1) := by decide +kernel
theorem dL_drawn_474 : decode cL_drawn 474 = .ok (.iadd, 1) := by decide +kernel
theorem dL_drawn_475 : decode cL_drawn 475 = .ok (.invokestatic 158, 3) := by decide +kernel
theorem dL_drawn_478 : decode cL_drawn 478 = .ok (.istore 11, 2) := by decide +kernel
theorem dL_drawn_480 : decode cL_drawn 480 = .ok (.iload 11, 2) := by decide +kernel
theorem dL_drawn_482 : decode cL_drawn 482 = .ok (.iconst (-1), 1) := by decide +kernel
theorem dL_drawn_483 : decode cL_drawn 483 = .ok (.if_icmp .eq 27, 3) := by decide +kernel
theorem dL_drawn_486 : decode cL_drawn 486 = .ok (.iload 11, 2) := by decide +kernel
theorem dL_drawn_488 : decode cL_drawn 488 = .ok (.ifCond .ge 24, 3) := by decide +kernel
theorem dL_drawn_491 : decode cL_drawn 491 = .ok (.aload_n 1, 1) := by decide +kernel
theorem dL_drawn_492 : decode cL_drawn 492 = .ok (.iconst 1, 1) := by decide +kernel
theorem dL_drawn_493 : decode cL_drawn 493 = .ok (.invokestatic 160, 3) := by decide +kernel
theorem dL_drawn_496 : decode cL_drawn 496 = .ok (.iconst 1, 1) := by decide +kernel
theorem dL_drawn_497 : decode cL_drawn 497 = .ok (.if_icmp .lt 13, 3) := by decide +kernel
theorem dL_drawn_500 : decode cL_drawn 500 = .ok (.aload_n 1, 1) := by decide +kernel
theorem dL_drawn_501 : decode cL_drawn 501 = .ok (.iconst 1, 1) := by decide +kernel
theorem dL_drawn_502 : decode cL_drawn 502 = .ok (.invokestatic 160, 3) := by decide +kernel
theorem dL_drawn_505 : decode cL_drawn 505 = .ok (.bipush 14, 2) := by decide +kernel
theorem dL_drawn_507 : decode cL_drawn 507 = .ok (.if_icmp .le 5, 3) := by decide +kernel
theorem dL_drawn_510 : decode cL_drawn 510 = .ok (.aconst_null, 1) := by decide +kernel
theorem dL_drawn_511 : decode cL_drawn 511 = .ok (.areturn, 1) := by decide +kernel
theorem dL_drawn_512 : decode cL_drawn 512 = .ok (.iinc 7 1, 3) := by decide +kernel
theorem dL_drawn_515 : decode cL_drawn 515 = .ok (.goto (-353), 3) := by decide +kernel
theorem dL_drawn_518 : decode cL_drawn 518 = .ok (.aload_n 1, 1) := by decide +kernel
theorem dL_drawn_519 : decode cL_drawn 519 = .ok (.areturn, 1) := by decide +kernel
theorem dL_law_0 : decode cL_law 0 = .ok (.aload_n 0, 1) := by decide +kernel
theorem dL_law_1 : decode cL_law 1 = .ok (.invokestatic 163, 3) := by decide +kernel
theorem dL_law_4 : decode cL_law 4 = .ok (.astore_n 1, 1) := by decide +kernel
theorem dL_law_5 : decode cL_law 5 = .ok (.aload_n 1, 1) := by decide +kernel
theorem dL_law_6 : decode cL_law 6 = .ok (.ifnull 43, 3) := by decide +kernel
theorem dL_law_9 : decode cL_law 9 = .ok (.aload_n 1, 1) := by decide +kernel
theorem dL_law_10 : decode cL_law 10 = .ok (.invokestatic 167, 3) := by decide +kernel
theorem dL_law_13 : decode cL_law 13 = .ok (.ifCond .eq 36, 3) := by decide +kernel
theorem dL_law_16 : decode cL_law 16 = .ok (.aload_n 1, 1) := by decide +kernel
theorem dL_law_17 : decode cL_law 17 = .ok (.invokestatic 171, 3) := by decide +kernel
theorem dL_law_20 : decode cL_law 20 = .ok (.ifCond .eq 29, 3) := by decide +kernel
theorem dL_law_23 : decode cL_law 23 = .ok (.aload_n 1, 1) := by decide +kernel
theorem dL_law_24 : decode cL_law 24 = .ok (.invokestatic 174, 3) := by decide +kernel
theorem dL_law_27 : decode cL_law 27 = .ok (.ifCond .eq 22, 3) := by decide +kernel
theorem dL_law_30 : decode cL_law 30 = .ok (.aload_n 1, 1) := by decide +kernel
theorem dL_law_31 : decode cL_law 31 = .ok (.invokestatic 177, 3) := by decide +kernel
theorem dL_law_34 : decode cL_law 34 = .ok (.ifCond .eq 15, 3) := by decide +kernel
theorem dL_law_37 : decode cL_law 37 = .ok (.aload_n 0, 1) := by decide +kernel
theorem dL_law_38 : decode cL_law 38 = .ok (.aload_n 1, 1) := by decide +kernel
theorem dL_law_39 : decode cL_law 39 = .ok (.invokestatic 180, 3) := by decide +kernel
theorem dL_law_42 : decode cL_law 42 = .ok (.ifCond .eq 7, 3) := by decide +kernel
theorem dL_law_45 : decode cL_law 45 = .ok (.iconst 1, 1) := by decide +kernel
theorem dL_law_46 : decode cL_law 46 = .ok (.goto 4, 3) := by decide +kernel
theorem dL_law_49 : decode cL_law 49 = .ok (.iconst 0, 1) := by decide +kernel
theorem dL_law_50 : decode cL_law 50 = .ok (.ireturn, 1) := by decide +kernel
theorem dL_sums_0 : decode cL_sums 0 = .ok (.iconst 0, 1) := by decide +kernel
theorem dL_sums_1 : decode cL_sums 1 = .ok (.istore_n 1, 1) := by decide +kernel
theorem dL_sums_2 : decode cL_sums 2 = .ok (.iconst 0, 1) := by decide +kernel
theorem dL_sums_3 : decode cL_sums 3 = .ok (.istore_n 2, 1) := by decide +kernel
theorem dL_sums_4 : decode cL_sums 4 = .ok (.iconst 0, 1) := by decide +kernel
theorem dL_sums_5 : decode cL_sums 5 = .ok (.istore_n 3, 1) := by decide +kernel
theorem dL_sums_6 : decode cL_sums 6 = .ok (.iconst 0, 1) := by decide +kernel
theorem dL_sums_7 : decode cL_sums 7 = .ok (.istore 4, 2) := by decide +kernel
theorem dL_sums_9 : decode cL_sums 9 = .ok (.iconst 0, 1) := by decide +kernel
theorem dL_sums_10 : decode cL_sums 10 = .ok (.istore 5, 2) := by decide +kernel
theorem dL_sums_12 : decode cL_sums 12 = .ok (.iconst 0, 1) := by decide +kernel
theorem dL_sums_13 : decode cL_sums 13 = .ok (.istore 6, 2) := by decide +kernel
theorem dL_sums_15 : decode cL_sums 15 = .ok (.iconst 0, 1) := by decide +kernel
theorem dL_sums_16 : decode cL_sums 16 = .ok (.istore 7, 2) := by decide +kernel
theorem dL_sums_18 : decode cL_sums 18 = .ok (.iload 7, 2) := by decide +kernel
theorem dL_sums_20 : decode cL_sums 20 = .ok (.aload_n 0, 1) := by decide +kernel
theorem dL_sums_21 : decode cL_sums 21 = .ok (.iconst 1, 1) := by decide +kernel
theorem dL_sums_22 : decode cL_sums 22 = .ok (.invokevirtual 184, 3) := by decide +kernel
theorem dL_sums_25 : decode cL_sums 25 = .ok (.if_icmp .ge 274, 3) := by decide +kernel
theorem dL_sums_28 : decode cL_sums 28 = .ok (.aload_n 0, 1) := by decide +kernel
theorem dL_sums_29 : decode cL_sums 29 = .ok (.iload 7, 2) := by decide +kernel
theorem dL_sums_31 : decode cL_sums 31 = .ok (.iconst 1, 1) := by decide +kernel
theorem dL_sums_32 : decode cL_sums 32 = .ok (.invokestatic 187, 3) := by decide +kernel
theorem dL_sums_35 : decode cL_sums 35 = .ok (.istore 8, 2) := by decide +kernel
theorem dL_sums_37 : decode cL_sums 37 = .ok (.aload_n 0, 1) := by decide +kernel
theorem dL_sums_38 : decode cL_sums 38 = .ok (.iload 7, 2) := by decide +kernel
theorem dL_sums_40 : decode cL_sums 40 = .ok (.iconst 3, 1) := by decide +kernel
theorem dL_sums_41 : decode cL_sums 41 = .ok (.invokestatic 187, 3) := by decide +kernel
theorem dL_sums_44 : decode cL_sums 44 = .ok (.istore 9, 2) := by decide +kernel
theorem dL_sums_46 : decode cL_sums 46 = .ok (.iconst 0, 1) := by decide +kernel
theorem dL_sums_47 : decode cL_sums 47 = .ok (.istore 10, 2) := by decide +kernel
theorem dL_sums_49 : decode cL_sums 49 = .ok (.iconst 0, 1) := by decide +kernel
theorem dL_sums_50 : decode cL_sums 50 = .ok (.istore 11, 2) := by decide +kernel
theorem dL_sums_52 : decode cL_sums 52 = .ok (.iload 11, 2) := by decide +kernel
theorem dL_sums_54 : decode cL_sums 54 = .ok (.bipush 8, 2) := by decide +kernel
theorem dL_sums_56 : decode cL_sums 56 = .ok (.if_icmp .ge 26, 3) := by decide +kernel
theorem dL_sums_59 : decode cL_sums 59 = .ok (.iload 10, 2) := by decide +kernel
theorem dL_sums_61 : decode cL_sums 61 = .ok (.aload_n 0, 1) := by decide +kernel
theorem dL_sums_62 : decode cL_sums 62 = .ok (.iload 7, 2) := by decide +kernel
theorem dL_sums_64 : decode cL_sums 64 = .ok (.iconst 2, 1) := by decide +kernel
theorem dL_sums_65 : decode cL_sums 65 = .ok (.invokestatic 187, 3) := by decide +kernel
theorem dL_sums_68 : decode cL_sums 68 = .ok (.iload 11, 2) := by decide +kernel
theorem dL_sums_70 : decode cL_sums 70 = .ok (.ishr, 1) := by decide +kernel
theorem dL_sums_71 : decode cL_sums 71 = .ok (.iconst 1, 1) := by decide +kernel
theorem dL_sums_72 : decode cL_sums 72 = .ok (.iand, 1) := by decide +kernel
theorem dL_sums_73 : decode cL_sums 73 = .ok (.iadd, 1) := by decide +kernel
theorem dL_sums_74 : decode cL_sums 74 = .ok (.istore 10, 2) := by decide +kernel
theorem dL_sums_76 : decode cL_sums 76 = .ok (.iinc 11 1, 3) := by decide +kernel
theorem dL_sums_79 : decode cL_sums 79 = .ok (.goto (-27), 3) := by decide +kernel
theorem dL_sums_82 : decode cL_sums 82 = .ok (.iload_n 1, 1) := by decide +kernel
theorem dL_sums_83 : decode cL_sums 83 = .ok (.iload 8, 2) := by decide +kernel
theorem dL_sums_85 : decode cL_sums 85 = .ok (.ifCond .lt 7, 3) := by decide +kernel
theorem dL_sums_88 : decode cL_sums 88 = .ok (.iconst 1, 1) := by decide +kernel
theorem dL_sums_89 : decode cL_sums 89 = .ok (.goto 4, 3) := by decide +kernel
theorem dL_sums_92 : decode cL_sums 92 = .ok (.iconst 0, 1) := by decide +kernel
theorem dL_sums_93 : decode cL_sums 93 = .ok (.iadd, 1) := by decide +kernel
theorem dL_sums_94 : decode cL_sums 94 = .ok (.istore_n 1, 1) := by decide +kernel
theorem dL_sums_95 : decode cL_sums 95 = .ok (.iload_n 2, 1) := by decide +kernel
theorem dL_sums_96 : decode cL_sums 96 = .ok (.iload 10, 2) := by decide +kernel
theorem dL_sums_98 : decode cL_sums 98 = .ok (.iadd, 1) := by decide +kernel
theorem dL_sums_99 : decode cL_sums 99 = .ok (.istore_n 2, 1) := by decide +kernel
theorem dL_sums_100 : decode cL_sums 100 = .ok (.iload_n 3, 1) := by decide +kernel
theorem dL_sums_101 : decode cL_sums 101 = .ok (.iload 9, 2) := by decide +kernel
theorem dL_sums_103 : decode cL_sums 103 = .ok (.iadd, 1) := by decide +kernel
theorem dL_sums_104 : decode cL_sums 104 = .ok (.istore_n 3, 1) := by decide +kernel
theorem dL_sums_105 : decode cL_sums 105 = .ok (.iload 4, 2) := by decide +kernel
theorem dL_sums_107 : decode cL_sums 107 = .ok (.iload 9, 2) := by decide +kernel
theorem dL_sums_109 : decode cL_sums 109 = .ok (.ifCond .le 13, 3) := by decide +kernel
theorem dL_sums_112 : decode cL_sums 112 = .ok (.aload_n 0, 1) := by decide +kernel
theorem dL_sums_113 : decode cL_sums 113 = .ok (.iload 7, 2) := by decide +kernel
theorem dL_sums_115 : decode cL_sums 115 = .ok (.iconst 4, 1) := by decide +kernel
theorem dL_sums_116 : decode cL_sums 116 = .ok (.invokestatic 187, 3) := by decide +kernel
theorem dL_sums_119 : decode cL_sums 119 = .ok (.goto 4, 3) := by decide +kernel
theorem dL_sums_122 : decode cL_sums 122 = .ok (.iconst 0, 1) := by decide +kernel
theorem dL_sums_123 : decode cL_sums 123 = .ok (.iadd, 1) := by decide +kernel
theorem dL_sums_124 : decode cL_sums 124 = .ok (.istore 4, 2) := by decide +kernel
theorem dL_sums_126 : decode cL_sums 126 = .ok (.iload 5, 2) := by decide +kernel
theorem dL_sums_128 : decode cL_sums 128 = .ok (.iload 9, 2) := by decide +kernel
theorem dL_sums_130 : decode cL_sums 130 = .ok (.ifCond .le 7, 3) := by decide +kernel
theorem dL_sums_133 : decode cL_sums 133 = .ok (.iconst 1, 1) := by decide +kernel
theorem dL_sums_134 : decode cL_sums 134 = .ok (.goto 4, 3) := by decide +kernel
theorem dL_sums_137 : decode cL_sums 137 = .ok (.iconst 0, 1) := by decide +kernel
theorem dL_sums_138 : decode cL_sums 138 = .ok (.iadd, 1) := by decide +kernel
theorem dL_sums_139 : decode cL_sums 139 = .ok (.istore 5, 2) := by decide +kernel
theorem dL_sums_141 : decode cL_sums 141 = .ok (.iload 6, 2) := by decide +kernel
theorem dL_sums_143 : decode cL_sums 143 = .ok (.aload_n 0, 1) := by decide +kernel
theorem dL_sums_144 : decode cL_sums 144 = .ok (.iload 7, 2) := by decide +kernel
theorem dL_sums_146 : decode cL_sums 146 = .ok (.bipush 6, 2) := by decide +kernel
theorem dL_sums_148 : decode cL_sums 148 = .ok (.invokestatic 187, 3) := by decide +kernel
theorem dL_sums_151 : decode cL_sums 151 = .ok (.iadd, 1) := by decide +kernel
theorem dL_sums_152 : decode cL_sums 152 = .ok (.istore 6, 2) := by decide +kernel
theorem dL_sums_154 : decode cL_sums 154 = .ok (.iload 9, 2) := by decide +kernel
theorem dL_sums_156 : decode cL_sums 156 = .ok (.ifCond .ne 31, 3) := by decide +kernel
theorem dL_sums_159 : decode cL_sums 159 = .ok (.aload_n 0, 1) := by decide +kernel
theorem dL_sums_160 : decode cL_sums 160 = .ok (.iload 7, 2) := by decide +kernel
theorem dL_sums_162 : decode cL_sums 162 = .ok (.iconst 4, 1) := by decide +kernel
theorem dL_sums_163 : decode cL_sums 163 = .ok (.invokestatic 187, 3) := by decide +kernel
theorem dL_sums_166 : decode cL_sums 166 = .ok (.ifCond .ne 17, 3) := by decide +kernel
theorem dL_sums_169 : decode cL_sums 169 = .ok (.aload_n 0, 1) := by decide +kernel
theorem dL_sums_170 : decode cL_sums 170 = .ok (.iload 7, 2) := by decide +kernel
theorem dL_sums_172 : decode cL_sums 172 = .ok (.iconst 5, 1) := by decide +kernel
theorem dL_sums_173 : decode cL_sums 173 = .ok (.invokestatic 187, 3) := by decide +kernel
theorem dL_sums_176 : decode cL_sums 176 = .ok (.ifCond .ne 7, 3) := by decide +kernel
theorem dL_sums_179 : decode cL_sums 179 = .ok (.iconst 1, 1) := by decide +kernel
theorem dL_sums_180 : decode cL_sums 180 = .ok (.goto 41, 3) := by decide +kernel
theorem dL_sums_183 : decode cL_sums 183 = .ok (.iconst 0, 1) := by decide +kernel
theorem dL_sums_184 : decode cL_sums 184 = .ok (.goto 37, 3) := by decide +kernel
theorem dL_sums_187 : decode cL_sums 187 = .ok (.iload 8, 2) := by decide +kernel
theorem dL_sums_189 : decode cL_sums 189 = .ok (.ifCond .lt 31, 3) := by decide +kernel
theorem dL_sums_192 : decode cL_sums 192 = .ok (.aload_n 0, 1) := by decide +kernel
theorem dL_sums_193 : decode cL_sums 193 = .ok (.iload 7, 2) := by decide +kernel
theorem dL_sums_195 : decode cL_sums 195 = .ok (.iconst 4, 1) := by decide +kernel
theorem dL_sums_196 : decode cL_sums 196 = .ok (.invokestatic 187, 3) := by decide +kernel
theorem dL_sums_199 : decode cL_sums 199 = .ok (.bipush 10, 2) := by decide +kernel
theorem dL_sums_201 : decode cL_sums 201 = .ok (.if_icmp .lt 19, 3) := by decide +kernel
theorem dL_sums_204 : decode cL_sums 204 = .ok (.aload_n 0, 1) := by decide +kernel
theorem dL_sums_205 : decode cL_sums 205 = .ok (.iload 7, 2) := by decide +kernel
theorem dL_sums_207 : decode cL_sums 207 = .ok (.iconst 4, 1) := by decide +kernel
theorem dL_sums_208 : decode cL_sums 208 = .ok (.invokestatic 187, 3) := by decide +kernel
theorem dL_sums_211 : decode cL_sums 211 = .ok (.bipush 60, 2) := by decide +kernel
theorem dL_sums_213 : decode cL_sums 213 = .ok (.if_icmp .gt 7, 3) := by decide +kernel
theorem dL_sums_216 : decode cL_sums 216 = .ok (.iconst 1, 1) := by decide +kernel
theorem dL_sums_217 : decode cL_sums 217 = .ok (.goto 4, 3) := by decide +kernel
theorem dL_sums_220 : decode cL_sums 220 = .ok (.iconst 0, 1) := by decide +kernel
theorem dL_sums_221 : decode cL_sums 221 = .ok (.istore 11, 2) := by decide +kernel
theorem dL_sums_223 : decode cL_sums 223 = .ok (.iload 11, 2) := by decide +kernel
theorem dL_sums_225 : decode cL_sums 225 = .ok (.ifCond .eq 66, 3) := by decide +kernel
theorem dL_sums_228 : decode cL_sums 228 = .ok (.iload 9, 2) := by decide +kernel
theorem dL_sums_230 : decode cL_sums 230 = .ok (.ifCond .lt 61, 3) := by decide +kernel
theorem dL_sums_233 : decode cL_sums 233 = .ok (.iload 9, 2) := by decide +kernel
theorem dL_sums_235 : decode cL_sums 235 = .ok (.bipush 100, 2) := by decide +kernel
theorem dL_sums_237 : decode cL_sums 237 = .ok (.aload_n 0, 1) := by decide +kernel
theorem dL_sums_238 : decode cL_sums 238 = .ok (.iload 7, 2) := by decide +kernel
theorem dL_sums_240 : decode cL_sums 240 = .ok (.iconst 0, 1) := by decide +kernel
theorem dL_sums_241 : decode cL_sums 241 = .ok (.invokestatic 187, 3) := by decide +kernel
theorem dL_sums_244 : decode cL_sums 244 = .ok (.imul, 1) := by decide +kernel
theorem dL_sums_245 : decode cL_sums 245 = .ok (.if_icmp .gt 46, 3) := by decide +kernel
theorem dL_sums_248 : decode cL_sums 248 = .ok (.iload 8, 2) := by decide +kernel
theorem dL_sums_250 : decode cL_sums 250 = .ok (.ifCond .lt 15, 3) := by decide +kernel
theorem dL_sums_253 : decode cL_sums 253 = .ok (.aload_n 0, 1) := by decide +kernel
theorem dL_sums_254 : decode cL_sums 254 = .ok (.iload 8, 2) := by decide +kernel
theorem dL_sums_256 : decode cL_sums 256 = .ok (.iconst 1, 1) := by decide +kernel
theorem dL_sums_257 : decode cL_sums 257 = .ok (.invokestatic 189, 3) := by decide +kernel
theorem dL_sums_260 : decode cL_sums 260 = .ok (.iload 7, 2) := by decide +kernel
theorem dL_sums_262 : decode cL_sums 262 = .ok (.if_icmp .ne 29, 3) := by decide +kernel
theorem dL_sums_265 : decode cL_sums 265 = .ok (.aload_n 0, 1) := by decide +kernel
theorem dL_sums_266 : decode cL_sums 266 = .ok (.iload 7, 2) := by decide +kernel
theorem dL_sums_268 : decode cL_sums 268 = .ok (.iconst 2, 1) := by decide +kernel
theorem dL_sums_269 : decode cL_sums 269 = .ok (.invokestatic 187, 3) := by decide +kernel
theorem dL_sums_272 : decode cL_sums 272 = .ok (.sipush 255, 3) := by decide +kernel
theorem dL_sums_275 : decode cL_sums 275 = .ok (.if_icmp .gt 16, 3) := by decide +kernel
theorem dL_sums_278 : decode cL_sums 278 = .ok (.aload_n 0, 1) := by decide +kernel
theorem dL_sums_279 : decode cL_sums 279 = .ok (.iload 7, 2) := by decide +kernel
theorem dL_sums_281 : decode cL_sums 281 = .ok (.bipush 7, 2) := by decide +kernel
theorem dL_sums_283 : decode cL_sums 283 = .ok (.invokestatic 187, 3) := by decide +kernel
theorem dL_sums_286 : decode cL_sums 286 = .ok (.bipush (-12), 2) := by decide +kernel
theorem dL_sums_288 : decode cL_sums 288 = .ok (.if_icmp .eq 5, 3) := by decide +kernel
theorem dL_sums_291 : decode cL_sums 291 = .ok (.iconst 0, 1) := by decide +kernel
theorem dL_sums_292 : decode cL_sums 292 = .ok (.ireturn, 1) := by decide +kernel
theorem dL_sums_293 : decode cL_sums 293 = .ok (.iinc 7 1, 3) := by decide +kernel
theorem dL_sums_296 : decode cL_sums 296 = .ok (.goto (-278), 3) := by decide +kernel
theorem dL_sums_299 : decode cL_sums 299 = .ok (.iconst 0, 1) := by decide +kernel
theorem dL_sums_300 : decode cL_sums 300 = .ok (.istore 7, 2) := by decide +kernel
theorem dL_sums_302 : decode cL_sums 302 = .ok (.iconst 0, 1) := by decide +kernel
theorem dL_sums_303 : decode cL_sums 303 = .ok (.istore 8, 2) := by decide +kernel
theorem dL_sums_305 : decode cL_sums 305 = .ok (.iload 8, 2) := by decide +kernel
theorem dL_sums_307 : decode cL_sums 307 = .ok (.aload_n 0, 1) := by decide +kernel
theorem dL_sums_308 : decode cL_sums 308 = .ok (.iconst 5, 1) := by decide +kernel
theorem dL_sums_309 : decode cL_sums 309 = .ok (.invokevirtual 184, 3) := by decide +kernel
theorem dL_sums_312 : decode cL_sums 312 = .ok (.if_icmp .ge 71, 3) := by decide +kernel
theorem dL_sums_315 : decode cL_sums 315 = .ok (.aload_n 0, 1) := by decide +kernel
theorem dL_sums_316 : decode cL_sums 316 = .ok (.iload 8, 2) := by decide +kernel
theorem dL_sums_318 : decode cL_sums 318 = .ok (.iconst 0, 1) := by decide +kernel
theorem dL_sums_319 : decode cL_sums 319 = .ok (.invokestatic 191, 3) := by decide +kernel
theorem dL_sums_322 : decode cL_sums 322 = .ok (.istore 9, 2) := by decide +kernel
theorem dL_sums_324 : decode cL_sums 324 = .ok (.iload 7, 2) := by decide +kernel
theorem dL_sums_326 : decode cL_sums 326 = .ok (.aload_n 0, 1) := by decide +kernel
theorem dL_sums_327 : decode cL_sums 327 = .ok (.iload 8, 2) := by decide +kernel
theorem dL_sums_329 : decode cL_sums 329 = .ok (.iconst 1, 1) := by decide +kernel
theorem dL_sums_330 : decode cL_sums 330 = .ok (.invokestatic 191, 3) := by decide +kernel
theorem dL_sums_333 : decode cL_sums 333 = .ok (.iadd, 1) := by decide +kernel
theorem dL_sums_334 : decode cL_sums 334 = .ok (.istore 7, 2) := by decide +kernel
theorem dL_sums_336 : decode cL_sums 336 = .ok (.aload_n 0, 1) := by decide +kernel
theorem dL_sums_337 : decode cL_sums 337 = .ok (.iload 8, 2) := by decide +kernel
theorem dL_sums_339 : decode cL_sums 339 = .ok (.iconst 1, 1) := by decide +kernel
theorem dL_sums_340 : decode cL_sums 340 = .ok (.invokestatic 191, 3) := by decide +kernel
theorem dL_sums_343 : decode cL_sums 343 = .ok (.ifCond .lt 32, 3) := by decide +kernel
theorem dL_sums_346 : decode cL_sums 346 = .ok (.aload_n 0, 1) := by decide +kernel
theorem dL_sums_347 : decode cL_sums 347 = .ok (.iload 8, 2) := by decide +kernel
theorem dL_sums_349 : decode cL_sums 349 = .ok (.iconst 1, 1) := by decide +kernel
theorem dL_sums_350 : decode cL_sums 350 = .ok (.invokestatic 191, 3) := by decide +kernel
theorem dL_sums_353 : decode cL_sums 353 = .ok (.bipush 60, 2) := by decide +kernel
theorem dL_sums_355 : decode cL_sums 355 = .ok (.if_icmp .gt 20, 3) := by decide +kernel
theorem dL_sums_358 : decode cL_sums 358 = .ok (.iload 9, 2) := by decide +kernel
theorem dL_sums_360 : decode cL_sums 360 = .ok (.ifCond .lt 17, 3) := by decide +kernel
theorem dL_sums_363 : decode cL_sums 363 = .ok (.aload_n 0, 1) := by decide +kernel
theorem dL_sums_364 : decode cL_sums 364 = .ok (.iload 9, 2) := by decide +kernel
theorem dL_sums_366 : decode cL_sums 366 = .ok (.iconst 2, 1) := by decide +kernel
theorem dL_sums_367 : decode cL_sums 367 = .ok (.invokestatic 189, 3) := by decide +kernel
theorem dL_sums_370 : decode cL_sums 370 = .ok (.iload 8, 2) := by decide +kernel
theorem dL_sums_372 : decode cL_sums 372 = .ok (.if_icmp .eq 5, 3) := by decide +kernel
theorem dL_sums_375 : decode cL_sums 375 = .ok (.iconst 0, 1) := by decide +kernel
theorem dL_sums_376 : decode cL_sums 376 = .ok (.ireturn, 1) := by decide +kernel
theorem dL_sums_377 : decode cL_sums 377 = .ok (.iinc 8 1, 3) := by decide +kernel
theorem dL_sums_380 : decode cL_sums 380 = .ok (.goto (-75), 3) := by decide +kernel
theorem dL_sums_383 : decode cL_sums 383 = .ok (.iconst 0, 1) := by decide +kernel
theorem dL_sums_384 : decode cL_sums 384 = .ok (.istore 8, 2) := by decide +kernel
theorem dL_sums_386 : decode cL_sums 386 = .ok (.iconst 0, 1) := by decide +kernel
theorem dL_sums_387 : decode cL_sums 387 = .ok (.istore 9, 2) := by decide +kernel
theorem dL_sums_389 : decode cL_sums 389 = .ok (.iconst 0, 1) := by decide +kernel
theorem dL_sums_390 : decode cL_sums 390 = .ok (.istore 10, 2) := by decide +kernel
theorem dL_sums_392 : decode cL_sums 392 = .ok (.iload 10, 2) := by decide +kernel
theorem dL_sums_394 : decode cL_sums 394 = .ok (.aload_n 0, 1) := by decide +kernel
theorem dL_sums_395 : decode cL_sums 395 = .ok (.iconst 4, 1) := by decide +kernel
theorem dL_sums_396 : decode cL_sums 396 = .ok (.invokevirtual 184, 3) := by decide +kernel
theorem dL_sums_399 : decode cL_sums 399 = .ok (.if_icmp .ge 33, 3) := by decide +kernel
theorem dL_sums_402 : decode cL_sums 402 = .ok (.iload 8, 2) := by decide +kernel
theorem dL_sums_404 : decode cL_sums 404 = .ok (.aload_n 0, 1) := by decide +kernel
theorem dL_sums_405 : decode cL_sums 405 = .ok (.iload 10, 2) := by decide +kernel
theorem dL_sums_407 : decode cL_sums 407 = .ok (.iconst 3, 1) := by decide +kernel
theorem dL_sums_408 : decode cL_sums 408 = .ok (.invokestatic 189, 3) := by decide +kernel
theorem dL_sums_411 : decode cL_sums 411 = .ok (.iadd, 1) := by decide +kernel
theorem dL_sums_412 : decode cL_sums 412 = .ok (.istore 8, 2) := by decide +kernel
theorem dL_sums_414 : decode cL_sums 414 = .ok (.iload 9, 2) := by decide +kernel
theorem dL_sums_416 : decode cL_sums 416 = .ok (.aload_n 0, 1) := by decide +kernel
theorem dL_sums_417 : decode cL_sums 417 = .ok (.iload 10, 2) := by decide +kernel
theorem dL_sums_419 : decode cL_sums 419 = .ok (.iconst 4, 1) := by decide +kernel
theorem dL_sums_420 : decode cL_sums 420 = .ok (.invokestatic 189, 3) := by decide +kernel
theorem dL_sums_423 : decode cL_sums 423 = .ok (.iadd, 1) := by decide +kernel
theorem dL_sums_424 : decode cL_sums 424 = .ok (.istore 9, 2) := by decide +kernel
theorem dL_sums_426 : decode cL_sums 426 = .ok (.iinc 10 1, 3) := by decide +kernel
theorem dL_sums_429 : decode cL_sums 429 = .ok (.goto (-37), 3) := by decide +kernel
theorem dL_sums_432 : decode cL_sums 432 = .ok (.iload 5, 2) := by decide +kernel
theorem dL_sums_434 : decode cL_sums 434 = .ok (.ifCond .eq 18, 3) := by decide +kernel
theorem dL_sums_437 : decode cL_sums 437 = .ok (.aload_n 0, 1) := by decide +kernel
theorem dL_sums_438 : decode cL_sums 438 = .ok (.invokevirtual 194, 3) := by decide +kernel
theorem dL_sums_441 : decode cL_sums 441 = .ok (.iload 4, 2) := by decide +kernel
theorem dL_sums_443 : decode cL_sums 443 = .ok (.i2d, 1) := by decide +kernel
theorem dL_sums_444 : decode cL_sums 444 = .ok (.iload 5, 2) := by decide +kernel
theorem dL_sums_446 : decode cL_sums 446 = .ok (.i2d, 1) := by decide +kernel
theorem dL_sums_447 : decode cL_sums 447 = .ok (.ddiv, 1) := by decide +kernel
theorem dL_sums_448 : decode cL_sums 448 = .ok (.dcmp .l, 1) := by decide +kernel
theorem dL_sums_449 : decode cL_sums 449 = .ok (.ifCond .ne 7, 3) := by decide +kernel
theorem dL_sums_452 : decode cL_sums 452 = .ok (.iconst 1, 1) := by decide +kernel
theorem dL_sums_453 : decode cL_sums 453 = .ok (.goto 4, 3) := by decide +kernel
theorem dL_sums_456 : decode cL_sums 456 = .ok (.iconst 0, 1) := by decide +kernel
theorem dL_sums_457 : decode cL_sums 457 = .ok (.istore 10, 2) := by decide +kernel
theorem dL_sums_459 : decode cL_sums 459 = .ok (.aload_n 0, 1) := by decide +kernel
theorem dL_sums_460 : decode cL_sums 460 = .ok (.bipush 10, 2) := by decide +kernel
theorem dL_sums_462 : decode cL_sums 462 = .ok (.invokevirtual 184, 3) := by decide +kernel
theorem dL_sums_465 : decode cL_sums 465 = .ok (.ifCond .eq 22, 3) := by decide +kernel
theorem dL_sums_468 : decode cL_sums 468 = .ok (.aload_n 0, 1) := by decide +kernel
theorem dL_sums_469 : decode cL_sums 469 = .ok (.invokevirtual 198, 3) := by decide +kernel
theorem dL_sums_472 : decode cL_sums 472 = .ok (.iload 9, 2) := by decide +kernel
theorem dL_sums_474 : decode cL_sums 474 = .ok (.i2f, 1) := by decide +kernel
theorem dL_sums_475 : decode cL_sums 475 = .ok (.aload_n 0, 1) := by decide +kernel
theorem dL_sums_476 : decode cL_sums 476 = .ok (.bipush 10, 2) := by decide +kernel
theorem dL_sums_478 : decode cL_sums 478 = .ok (.invokevirtual 184, 3) := by decide +kernel
theorem dL_sums_481 : decode cL_sums 481 = .ok (.i2f, 1) := by decide +kernel
theorem dL_sums_482 : decode cL_sums 482 = .ok (.fdiv, 1) := by decide +kernel
theorem dL_sums_483 : decode cL_sums 483 = .ok (.fcmp .l, 1) := by decide +kernel
theorem dL_sums_484 : decode cL_sums 484 = .ok (.ifCond .ne 7, 3) := by decide +kernel
theorem dL_sums_487 : decode cL_sums 487 = .ok (.iconst 1, 1) := by decide +kernel
theorem dL_sums_488 : decode cL_sums 488 = .ok (.goto 4, 3) := by decide +kernel
theorem dL_sums_491 : decode cL_sums 491 = .ok (.iconst 0, 1) := by decide +kernel
theorem dL_sums_492 : decode cL_sums 492 = .ok (.istore 11, 2) := by decide +kernel
theorem dL_sums_494 : decode cL_sums 494 = .ok (.aload_n 0, 1) := by decide +kernel
theorem dL_sums_495 : decode cL_sums 495 = .ok (.invokevirtual 202, 3) := by decide +kernel
theorem dL_sums_498 : decode cL_sums 498 = .ok (.bipush 12, 2) := by decide +kernel
theorem dL_sums_500 : decode cL_sums 500 = .ok (.if_icmp .ne 138, 3) := by decide +kernel
theorem dL_sums_503 : decode cL_sums 503 = .ok (.aload_n 0, 1) := by decide +kernel
theorem dL_sums_504 : decode cL_sums 504 = .ok (.bipush 7, 2) := by decide +kernel
theorem dL_sums_506 : decode cL_sums 506 = .ok (.invokevirtual 184, 3) := by decide +kernel
theorem dL_sums_509 : decode cL_sums 509 = .ok (.aload_n 0, 1) := by decide +kernel
theorem dL_sums_510 : decode cL_sums 510 = .ok (.bipush 8, 2) := by decide +kernel
theorem dL_sums_512 : decode cL_sums 512 = .ok (.invokevirtual 184, 3) := by decide +kernel
theorem dL_sums_515 : decode cL_sums 515 = .ok (.iadd, 1) := by decide +kernel
theorem dL_sums_516 : decode cL_sums 516 = .ok (.iload 8, 2) := by decide +kernel
theorem dL_sums_518 : decode cL_sums 518 = .ok (.iadd, 1) := by decide +kernel
theorem dL_sums_519 : decode cL_sums 519 = .ok (.bipush 12, 2) := by decide +kernel
theorem dL_sums_521 : decode cL_sums 521 = .ok (.if_icmp .ne 117, 3) := by decide +kernel
theorem dL_sums_524 : decode cL_sums 524 = .ok (.aload_n 0, 1) := by decide +kernel
theorem dL_sums_525 : decode cL_sums 525 = .ok (.bipush 9, 2) := by decide +kernel
theorem dL_sums_527 : decode cL_sums 527 = .ok (.invokevirtual 184, 3) := by decide +kernel
theorem dL_sums_530 : decode cL_sums 530 = .ok (.iload 8, 2) := by decide +kernel
theorem dL_sums_532 : decode cL_sums 532 = .ok (.if_icmp .ne 106, 3) := by decide +kernel
theorem dL_sums_535 : decode cL_sums 535 = .ok (.aload_n 0, 1) := by decide +kernel
theorem dL_sums_536 : decode cL_sums 536 = .ok (.bipush 10, 2) := by decide +kernel
theorem dL_sums_538 : decode cL_sums 538 = .ok (.invokevirtual 184, 3) := by decide +kernel
theorem dL_sums_541 : decode cL_sums 541 = .ok (.iload 8, 2) := by decide +kernel
theorem dL_sums_543 : decode cL_sums 543 = .ok (.iload 9, 2) := by decide +kernel
theorem dL_sums_545 : decode cL_sums 545 = .ok (.iadd, 1) := by decide +kernel
theorem dL_sums_546 : decode cL_sums 546 = .ok (.if_icmp .ne 92, 3) := by decide +kernel
theorem dL_sums_549 : decode cL_sums 549 = .ok (.aload_n 0, 1) := by decide +kernel
theorem dL_sums_550 : decode cL_sums 550 = .ok (.bipush 11, 2) := by decide +kernel
theorem dL_sums_552 : decode cL_sums 552 = .ok (.invokevirtual 184, 3) := by decide +kernel
theorem dL_sums_555 : decode cL_sums 555 = .ok (.iload 9, 2) := by decide +kernel
theorem dL_sums_557 : decode cL_sums 557 = .ok (.if_icmp .ne 81, 3) := by decide +kernel
theorem dL_sums_560 : decode cL_sums 560 = .ok (.iload 6, 2) := by decide +kernel
theorem dL_sums_562 : decode cL_sums 562 = .ok (.iload 9, 2) := by decide +kernel
theorem dL_sums_564 : decode cL_sums 564 = .ok (.if_icmp .ne 74, 3) := by decide +kernel
theorem dL_sums_567 : decode cL_sums 567 = .ok (.aload_n 0, 1) := by decide +kernel
theorem dL_sums_568 : decode cL_sums 568 = .ok (.iconst 2, 1) := by decide +kernel
theorem dL_sums_569 : decode cL_sums 569 = .ok (.invokevirtual 184, 3) := by decide +kernel
theorem dL_sums_572 : decode cL_sums 572 = .ok (.iload_n 1, 1) := by decide +kernel
theorem dL_sums_573 : decode cL_sums 573 = .ok (.if_icmp .ne 65, 3) := by decide +kernel
theorem dL_sums_576 : decode cL_sums 576 = .ok (.aload_n 0, 1) := by decide +kernel
theorem dL_sums_577 : decode cL_sums 577 = .ok (.iconst 3, 1) := by decide +kernel
theorem dL_sums_578 : decode cL_sums 578 = .ok (.invokevirtual 184, 3) := by decide +kernel
theorem dL_sums_581 : decode cL_sums 581 = .ok (.iload_n 2, 1) := by decide +kernel
theorem dL_sums_582 : decode cL_sums 582 = .ok (.if_icmp .ne 56, 3) := by decide +kernel
theorem dL_sums_585 : decode cL_sums 585 = .ok (.aload_n 0, 1) := by decide +kernel
theorem dL_sums_586 : decode cL_sums 586 = .ok (.bipush 14, 2) := by decide +kernel
theorem dL_sums_588 : decode cL_sums 588 = .ok (.invokevirtual 184, 3) := by decide +kernel
theorem dL_sums_591 : decode cL_sums 591 = .ok (.iload_n 3, 1) := by decide +kernel
theorem dL_sums_592 : decode cL_sums 592 = .ok (.if_icmp .ne 46, 3) := by decide +kernel
theorem dL_sums_595 : decode cL_sums 595 = .ok (.aload_n 0, 1) := by decide +kernel
theorem dL_sums_596 : decode cL_sums 596 = .ok (.bipush 6, 2) := by decide +kernel
theorem dL_sums_598 : decode cL_sums 598 = .ok (.invokevirtual 184, 3) := by decide +kernel
theorem dL_sums_601 : decode cL_sums 601 = .ok (.iload 7, 2) := by decide +kernel
theorem dL_sums_603 : decode cL_sums 603 = .ok (.if_icmp .ne 35, 3) := by decide +kernel
theorem dL_sums_606 : decode cL_sums 606 = .ok (.aload_n 0, 1) := by decide +kernel
theorem dL_sums_607 : decode cL_sums 607 = .ok (.bipush 13, 2) := by decide +kernel
theorem dL_sums_609 : decode cL_sums 609 = .ok (.invokevirtual 184, 3) := by decide +kernel
theorem dL_sums_612 : decode cL_sums 612 = .ok (.ifCond .lt 26, 3) := by decide +kernel
theorem dL_sums_615 : decode cL_sums 615 = .ok (.aload_n 0, 1) := by decide +kernel
theorem dL_sums_616 : decode cL_sums 616 = .ok (.bipush 12, 2) := by decide +kernel
theorem dL_sums_618 : decode cL_sums 618 = .ok (.invokevirtual 184, 3) := by decide +kernel
theorem dL_sums_621 : decode cL_sums 621 = .ok (.ifCond .lt 17, 3) := by decide +kernel
theorem dL_sums_624 : decode cL_sums 624 = .ok (.iload 10, 2) := by decide +kernel
theorem dL_sums_626 : decode cL_sums 626 = .ok (.ifCond .eq 12, 3) := by decide +kernel
theorem dL_sums_629 : decode cL_sums 629 = .ok (.iload 11, 2) := by decide +kernel
theorem dL_sums_631 : decode cL_sums 631 = .ok (.ifCond .eq 7, 3) := by decide +kernel
theorem dL_sums_634 : decode cL_sums 634 = .ok (.iconst 1, 1) := by decide +kernel
theorem dL_sums_635 : decode cL_sums 635 = .ok (.goto 4, 3) := by decide +kernel
theorem dL_sums_638 : decode cL_sums 638 = .ok (.iconst 0, 1) := by decide +kernel
theorem dL_sums_639 : decode cL_sums 639 = .ok (.ireturn, 1) := by decide +kernel
theorem dL_tents_0 : decode cL_tents 0 = .ok (.iconst 0, 1) := by decide +kernel
theorem dL_tents_1 : decode cL_tents 1 = .ok (.istore_n 1, 1) := by decide +kernel
theorem dL_tents_2 : decode cL_tents 2 = .ok (.iload_n 1, 1) := by decide +kernel
theorem dL_tents_3 : decode cL_tents 3 = .ok (.aload_n 0, 1) := by decide +kernel
theorem dL_tents_4 : decode cL_tents 4 = .ok (.iconst 4, 1) := by decide +kernel
theorem dL_tents_5 : decode cL_tents 5 = .ok (.invokevirtual 184, 3) := by decide +kernel
theorem dL_tents_8 : decode cL_tents 8 = .ok (.if_icmp .ge 392, 3) := by decide +kernel
theorem dL_tents_11 : decode cL_tents 11 = .ok (.aload_n 0, 1) := by decide +kernel
theorem dL_tents_12 : decode cL_tents 12 = .ok (.iload_n 1, 1) := by decide +kernel
theorem dL_tents_13 : decode cL_tents 13 = .ok (.iconst 1, 1) := by decide +kernel
theorem dL_tents_14 : decode cL_tents 14 = .ok (.invokestatic 189, 3) := by decide +kernel
theorem dL_tents_17 : decode cL_tents 17 = .ok (.istore_n 2, 1) := by decide +kernel
theorem dL_tents_18 : decode cL_tents 18 = .ok (.aload_n 0, 1) := by decide +kernel
theorem dL_tents_19 : decode cL_tents 19 = .ok (.iload_n 1, 1) := by decide +kernel
theorem dL_tents_20 : decode cL_tents 20 = .ok (.iconst 2, 1) := by decide +kernel
theorem dL_tents_21 : decode cL_tents 21 = .ok (.invokestatic 189, 3) := by decide +kernel
theorem dL_tents_24 : decode cL_tents 24 = .ok (.istore_n 3, 1) := by decide +kernel
theorem dL_tents_25 : decode cL_tents 25 = .ok (.aload_n 0, 1) := by decide +kernel
theorem dL_tents_26 : decode cL_tents 26 = .ok (.iload_n 1, 1) := by decide +kernel
theorem dL_tents_27 : decode cL_tents 27 = .ok (.iconst 3, 1) := by decide +kernel
theorem dL_tents_28 : decode cL_tents 28 = .ok (.invokestatic 189, 3) := by decide +kernel
theorem dL_tents_31 : decode cL_tents 31 = .ok (.istore 4, 2) := by decide +kernel
theorem dL_tents_33 : decode cL_tents 33 = .ok (.iload_n 2, 1) := by decide +kernel
theorem dL_tents_34 : decode cL_tents 34 = .ok (.ifCond .lt 13, 3) := by decide +kernel
theorem dL_tents_37 : decode cL_tents 37 = .ok (.aload_n 0, 1) := by decide +kernel
theorem dL_tents_38 : decode cL_tents 38 = .ok (.iload_n 2, 1) := by decide +kernel
theorem dL_tents_39 : decode cL_tents 39 = .ok (.iconst 1, 1) := by decide +kernel
theorem dL_tents_40 : decode cL_tents 40 = .ok (.invokestatic 187, 3) := by decide +kernel
theorem dL_tents_43 : decode cL_tents 43 = .ok (.iload_n 1, 1) := by decide +kernel
theorem dL_tents_44 : decode cL_tents 44 = .ok (.if_icmp .ne 36, 3) := by decide +kernel
theorem dL_tents_47 : decode cL_tents 47 = .ok (.iload_n 3, 1) := by decide +kernel
theorem dL_tents_48 : decode cL_tents 48 = .ok (.ifCond .lt 13, 3) := by decide +kernel
theorem dL_tents_51 : decode cL_tents 51 = .ok (.aload_n 0, 1) := by decide +kernel
theorem dL_tents_52 : decode cL_tents 52 = .ok (.iload_n 3, 1) := by decide +kernel
theorem dL_tents_53 : decode cL_tents 53 = .ok (.iconst 0, 1) := by decide +kernel
theorem dL_tents_54 : decode cL_tents 54 = .ok (.invokestatic 191, 3) := by decide +kernel
theorem dL_tents_57 : decode cL_tents 57 = .ok (.iload_n 1, 1) := by decide +kernel
theorem dL_tents_58 : decode cL_tents 58 = .ok (.if_icmp .ne 22, 3) := by decide +kernel
theorem dL_tents_61 : decode cL_tents 61 = .ok (.iload 4, 2) := by decide +kernel
theorem dL_tents_63 : decode cL_tents 63 = .ok (.bipush 6, 2) := by decide +kernel
theorem dL_tents_65 : decode cL_tents 65 = .ok (.if_icmp .gt 15, 3) := by decide +kernel
theorem dL_tents_68 : decode cL_tents 68 = .ok (.aload_n 0, 1) := by decide +kernel
theorem dL_tents_69 : decode cL_tents 69 = .ok (.iload_n 1, 1) := by decide +kernel
theorem dL_tents_70 : decode cL_tents 70 = .ok (.iload 4, 2) := by decide +kernel
theorem dL_tents_72 : decode cL_tents 72 = .ok (.invokestatic 205, 3) := by decide +kernel
theorem dL_tents_75 : decode cL_tents 75 = .ok (.bipush (-13), 2) := by decide +kernel
theorem dL_tents_77 : decode cL_tents 77 = .ok (.if_icmp .eq 5, 3) := by decide +kernel
theorem dL_tents_80 : decode cL_tents 80 = .ok (.iconst 0, 1) := by decide +kernel
theorem dL_tents_81 : decode cL_tents 81 = .ok (.ireturn, 1) := by decide +kernel
theorem dL_tents_82 : decode cL_tents 82 = .ok (.iconst (-1), 1) := by decide +kernel
theorem dL_tents_83 : decode cL_tents 83 = .ok (.istore 5, 2) := by decide +kernel
theorem dL_tents_85 : decode cL_tents 85 = .ok (.iconst 0, 1) := by decide +kernel
theorem dL_tents_86 : decode cL_tents 86 = .ok (.istore 6, 2) := by decide +kernel
theorem dL_tents_88 : decode cL_tents 88 = .ok (.iload 6, 2) := by decide +kernel
theorem dL_tents_90 : decode cL_tents 90 = .ok (.iload 4, 2) := by decide +kernel
theorem dL_tents_92 : decode cL_tents 92 = .ok (.if_icmp .ge 42, 3) := by decide +kernel
theorem dL_tents_95 : decode cL_tents 95 = .ok (.aload_n 0, 1) := by decide +kernel
theorem dL_tents_96 : decode cL_tents 96 = .ok (.iload_n 1, 1) := by decide +kernel
theorem dL_tents_97 : decode cL_tents 97 = .ok (.iload 6, 2) := by decide +kernel
theorem dL_tents_99 : decode cL_tents 99 = .ok (.invokestatic 205, 3) := by decide +kernel
theorem dL_tents_102 : decode cL_tents 102 = .ok (.istore 7, 2) := by decide +kernel
theorem dL_tents_104 : decode cL_tents 104 = .ok (.iload 7, 2) := by decide +kernel
theorem dL_tents_106 : decode cL_tents 106 = .ok (.iload 5, 2) := by decide +kernel
theorem dL_tents_108 : decode cL_tents 108 = .ok (.if_icmp .le 14, 3) := by decide +kernel
theorem dL_tents_111 : decode cL_tents 111 = .ok (.iload 7, 2) := by decide +kernel
theorem dL_tents_113 : decode cL_tents 113 = .ok (.aload_n 0, 1) := by decide +kernel
theorem dL_tents_114 : decode cL_tents 114 = .ok (.bipush 10, 2) := by decide +kernel
theorem dL_tents_116 : decode cL_tents 116 = .ok (.invokevirtual 184, 3) := by decide +kernel
theorem dL_tents_119 : decode cL_tents 119 = .ok (.if_icmp .lt 5, 3) := by decide +kernel
theorem dL_tents_122 : decode cL_tents 122 = .ok (.iconst 0, 1) := by decide +kernel
theorem dL_tents_123 : decode cL_tents 123 = .ok (.ireturn, 1) := by decide +kernel
theorem dL_tents_124 : decode cL_tents 124 = .ok (.iload 7, 2) := by decide +kernel
theorem dL_tents_126 : decode cL_tents 126 = .ok (.istore 5, 2) := by decide +kernel
theorem dL_tents_128 : decode cL_tents 128 = .ok (.iinc 6 1, 3) := by decide +kernel
theorem dL_tents_131 : decode cL_tents 131 = .ok (.goto (-43), 3) := by decide +kernel
theorem dL_tents_134 : decode cL_tents 134 = .ok (.new 207, 3) := by decide +kernel
theorem dL_tents_137 : decode cL_tents 137 = .ok (.dup, 1) := by decide +kernel
theorem dL_tents_138 : decode cL_tents 138 = .ok (.invokespecial 209, 3) := by decide +kernel
theorem dL_tents_141 : decode cL_tents 141 = .ok (.astore 6, 2) := by decide +kernel
theorem dL_tents_143 : decode cL_tents 143 = .ok (.aload 6, 2) := by decide +kernel
theorem dL_tents_145 : decode cL_tents 145 = .ok (.iload_n 1, 1) := by decide +kernel
theorem dL_tents_146 : decode cL_tents 146 = .ok (.invokevirtual 210, 3) := by decide +kernel
theorem dL_tents_149 : decode cL_tents 149 = .ok (.bipush 58, 2) := by decide +kernel
theorem dL_tents_151 : decode cL_tents 151 = .ok (.invokevirtual 214, 3) := by decide +kernel
theorem dL_tents_154 : decode cL_tents 154 = .ok (.pop, 1) := by decide +kernel
theorem dL_tents_155 : decode cL_tents 155 = .ok (.iload_n 2, 1) := by decide +kernel
theorem dL_tents_156 : decode cL_tents 156 = .ok (.ifCond .ge 14, 3) := by decide +kernel
theorem dL_tents_159 : decode cL_tents 159 = .ok (.aload 6, 2) := by decide +kernel
theorem dL_tents_161 : decode cL_tents 161 = .ok (.ldc 217, 2) := by decide +kernel
theorem dL_tents_163 : decode cL_tents 163 = .ok (.invokevirtual 219, 3) := by decide +kernel
theorem dL_tents_166 : decode cL_tents 166 = .ok (.pop, 1) := by decide +kernel
theorem dL_tents_167 : decode cL_tents 167 = .ok (.goto 103, 3) := by decide +kernel
theorem dL_tents_170 : decode cL_tents 170 = .ok (.aload 6, 2) := by decide +kernel
theorem dL_tents_172 : decode cL_tents 172 = .ok (.bipush 32, 2) := by decide +kernel
theorem dL_tents_174 : decode cL_tents 174 = .ok (.invokevirtual 214, 3) := by decide +kernel
theorem dL_tents_177 : decode cL_tents 177 = .ok (.iload_n 2, 1) := by decide +kernel
theorem dL_tents_178 : decode cL_tents 178 = .ok (.invokevirtual 210, 3) := by decide +kernel
theorem dL_tents_181 : decode cL_tents 181 = .ok (.bipush 32, 2) := by decide +kernel
theorem dL_tents_183 : decode cL_tents 183 = .ok (.invokevirtual 214, 3) := by decide +kernel
theorem dL_tents_186 : decode cL_tents 186 = .ok (.aload_n 0, 1) := by decide +kernel
theorem dL_tents_187 : decode cL_tents 187 = .ok (.iload_n 2, 1) := by decide +kernel
theorem dL_tents_188 : decode cL_tents 188 = .ok (.iconst 3, 1) := by decide +kernel
theorem dL_tents_189 : decode cL_tents 189 = .ok (.invokestatic 187, 3) := by decide +kernel
theorem dL_tents_192 : decode cL_tents 192 = .ok (.invokevirtual 210, 3) := by decide +kernel
theorem dL_tents_195 : decode cL_tents 195 = .ok (.bipush 108, 2) := by decide +kernel
theorem dL_tents_197 : decode cL_tents 197 = .ok (.invokevirtual 214, 3) := by decide +kernel
theorem dL_tents_200 : decode cL_tents 200 = .ok (.pop, 1) := by decide +kernel
theorem dL_tents_201 : decode cL_tents 201 = .ok (.aload 6, 2) := by decide +kernel
theorem dL_tents_203 : decode cL_tents 203 = .ok (.aload_n 0, 1) := by decide +kernel
theorem dL_tents_204 : decode cL_tents 204 = .ok (.iload_n 2, 1) := by decide +kernel
theorem dL_tents_205 : decode cL_tents 205 = .ok (.iconst 3, 1) := by decide +kernel
theorem dL_tents_206 : decode cL_tents 206 = .ok (.invokestatic 187, 3) := by decide +kernel
theorem dL_tents_209 : decode cL_tents 209 = .ok (.ifCond .le 55, 3) := by decide +kernel
theorem dL_tents_212 : decode cL_tents 212 = .ok (.new 207, 3) := by decide +kernel
theorem dL_tents_215 : decode cL_tents 215 = .ok (.dup, 1) := by decide +kernel
theorem dL_tents_216 : decode cL_tents 216 = .ok (.invokespecial 209, 3) := by decide +kernel
theorem dL_tents_219 : decode cL_tents 219 = .ok (.ldc 222, 2) := by decide +kernel
theorem dL_tents_221 : decode cL_tents 221 = .ok (.invokevirtual 219, 3) := by decide +kernel
theorem dL_tents_224 : decode cL_tents 224 = .ok (.aload_n 0, 1) := by decide +kernel
theorem dL_tents_225 : decode cL_tents 225 = .ok (.iload_n 2, 1) := by decide +kernel
theorem dL_tents_226 : decode cL_tents 226 = .ok (.iconst 4, 1) := by decide +kernel
theorem dL_tents_227 : decode cL_tents 227 = .ok (.invokestatic 187, 3) := by decide +kernel
theorem dL_tents_230 : decode cL_tents 230 = .ok (.invokevirtual 210, 3) := by decide +kernel
theorem dL_tents_233 : decode cL_tents 233 = .ok (.ldc 224, 2) := by decide +kernel
theorem dL_tents_235 : decode cL_tents 235 = .ok (.invokevirtual 219, 3) := by decide +kernel
theorem dL_tents_238 : decode cL_tents 238 = .ok (.aload_n 0, 1) := by decide +kernel
theorem dL_tents_239 : decode cL_tents 239 = .ok (.iload_n 2, 1) := by decide +kernel
theorem dL_tents_240 : decode cL_tents 240 = .ok (.iconst 5, 1) := by decide +kernel
theorem dL_tents_241 : decode cL_tents 241 = .ok (.invokestatic 187, 3) := by decide +kernel
theorem dL_tents_244 : decode cL_tents 244 = .ok (.iconst 1, 1) := by decide +kernel
theorem dL_tents_245 : decode cL_tents 245 = .ok (.if_icmp .ne 8, 3) := by decide +kernel
theorem dL_tents_248 : decode cL_tents 248 = .ok (.ldc 226, 2) := by decide +kernel
theorem dL_tents_250 : decode cL_tents 250 = .ok (.goto 5, 3) := by decide +kernel
theorem dL_tents_253 : decode cL_tents 253 = .ok (.ldc 228, 2) := by decide +kernel
theorem dL_tents_255 : decode cL_tents 255 = .ok (.invokevirtual 219, 3) := by decide +kernel
theorem dL_tents_258 : decode cL_tents 258 = .ok (.invokevirtual 230, 3) := by decide +kernel
theorem dL_tents_261 : decode cL_tents 261 = .ok (.goto 5, 3) := by decide +kernel
theorem dL_tents_264 : decode cL_tents 264 = .ok (.ldc 228, 2) := by decide +kernel
theorem dL_tents_266 : decode cL_tents 266 = .ok (.invokevirtual 219, 3) := by decide +kernel
theorem dL_tents_269 : decode cL_tents 269 = .ok (.pop, 1) := by decide +kernel
theorem dL_tents_270 : decode cL_tents 270 = .ok (.aload 6, 2) := by decide +kernel
theorem dL_tents_272 : decode cL_tents 272 = .ok (.iload_n 3, 1) := by decide +kernel
theorem dL_tents_273 : decode cL_tents 273 = .ok (.ifCond .ge 8, 3) := by decide +kernel
theorem dL_tents_276 : decode cL_tents 276 = .ok (.ldc 228, 2) := by decide +kernel
theorem dL_tents_278 : decode cL_tents 278 = .ok (.goto 27, 3) := by decide +kernel
theorem dL_tents_281 : decode cL_tents 281 = .ok (.new 207, 3) := by decide +kernel
theorem dL_tents_284 : decode cL_tents 284 = .ok (.dup, 1) := by decide +kernel
theorem dL_tents_285 : decode cL_tents 285 = .ok (.invokespecial 209, 3) := by decide +kernel
theorem dL_tents_288 : decode cL_tents 288 = .ok (.ldc 234, 2) := by decide +kernel
theorem dL_tents_290 : decode cL_tents 290 = .ok (.invokevirtual 219, 3) := by decide +kernel
theorem dL_tents_293 : decode cL_tents 293 = .ok (.aload_n 0, 1) := by decide +kernel
theorem dL_tents_294 : decode cL_tents 294 = .ok (.iload_n 3, 1) := by decide +kernel
theorem dL_tents_295 : decode cL_tents 295 = .ok (.iconst 1, 1) := by decide +kernel
theorem dL_tents_296 : decode cL_tents 296 = .ok (.invokestatic 191, 3) := by decide +kernel
theorem dL_tents_299 : decode cL_tents 299 = .ok (.invokevirtual 210, 3) := by decide +kernel
theorem dL_tents_302 : decode cL_tents 302 = .ok (.invokevirtual 230, 3) := by decide +kernel
theorem dL_tents_305 : decode cL_tents 305 = .ok (.invokevirtual 219, 3) := by decide +kernel
theorem dL_tents_308 : decode cL_tents 308 = .ok (.iload 4, 2) := by decide +kernel
theorem dL_tents_310 : decode cL_tents 310 = .ok (.ifCond .le 26, 3) := by decide +kernel
theorem dL_tents_313 : decode cL_tents 313 = .ok (.new 207, 3) := by decide +kernel
theorem dL_tents_316 : decode cL_tents 316 = .ok (.dup, 1) := by decide +kernel
theorem dL_tents_317 : decode cL_tents 317 = .ok (.invokespecial 209, 3) := by decide +kernel
theorem dL_tents_320 : decode cL_tents 320 = .ok (.ldc 236, 2) := by decide +kernel
theorem dL_tents_322 : decode cL_tents 322 = .ok (.invokevirtual 219, 3) := by decide +kernel
theorem dL_tents_325 : decode cL_tents 325 = .ok (.iload 4, 2) := by decide +kernel
theorem dL_tents_327 : decode cL_tents 327 = .ok (.invokevirtual 210, 3) := by decide +kernel
theorem dL_tents_330 : decode cL_tents 330 = .ok (.invokevirtual 230, 3) := by decide +kernel
theorem dL_tents_333 : decode cL_tents 333 = .ok (.goto 5, 3) := by decide +kernel
theorem dL_tents_336 : decode cL_tents 336 = .ok (.ldc 228, 2) := by decide +kernel
theorem dL_tents_338 : decode cL_tents 338 = .ok (.invokevirtual 219, 3) := by decide +kernel
theorem dL_tents_341 : decode cL_tents 341 = .ok (.pop, 1) := by decide +kernel
theorem dL_tents_342 : decode cL_tents 342 = .ok (.aload_n 0, 1) := by decide +kernel
theorem dL_tents_343 : decode cL_tents 343 = .ok (.iload_n 1, 1) := by decide +kernel
theorem dL_tents_344 : decode cL_tents 344 = .ok (.invokevirtual 238, 3) := by decide +kernel
theorem dL_tents_347 : decode cL_tents 347 = .ok (.aload 6, 2) := by decide +kernel
theorem dL_tents_349 : decode cL_tents 349 = .ok (.invokevirtual 241, 3) := by decide +kernel
theorem dL_tents_352 : decode cL_tents 352 = .ok (.if_icmp .eq 5, 3) := by decide +kernel
theorem dL_tents_355 : decode cL_tents 355 = .ok (.iconst 0, 1) := by decide +kernel
theorem dL_tents_356 : decode cL_tents 356 = .ok (.ireturn, 1) := by decide +kernel
theorem dL_tents_357 : decode cL_tents 357 = .ok (.iconst 0, 1) := by decide +kernel
theorem dL_tents_358 : decode cL_tents 358 = .ok (.istore 7, 2) := by decide +kernel
theorem dL_tents_360 : decode cL_tents 360 = .ok (.iload 7, 2) := by decide +kernel
theorem dL_tents_362 : decode cL_tents 362 = .ok (.aload 6, 2) := by decide +kernel
theorem dL_tents_364 : decode cL_tents 364 = .ok (.invokevirtual 241, 3) := by decide +kernel
theorem dL_tents_367 : decode cL_tents 367 = .ok (.if_icmp .ge 27, 3) := by decide +kernel
theorem dL_tents_370 : decode cL_tents 370 = .ok (.aload_n 0, 1) := by decide +kernel
theorem dL_tents_371 : decode cL_tents 371 = .ok (.iload 7, 2) := by decide +kernel
theorem dL_tents_373 : decode cL_tents 373 = .ok (.invokevirtual 242, 3) := by decide +kernel
theorem dL_tents_376 : decode cL_tents 376 = .ok (.aload 6, 2) := by decide +kernel
theorem dL_tents_378 : decode cL_tents 378 = .ok (.iload 7, 2) := by decide +kernel
theorem dL_tents_380 : decode cL_tents 380 = .ok (.invokevirtual 245, 3) := by decide +kernel
theorem dL_tents_383 : decode cL_tents 383 = .ok (.if_icmp .eq 5, 3) := by decide +kernel
theorem dL_tents_386 : decode cL_tents 386 = .ok (.iconst 0, 1) := by decide +kernel
theorem dL_tents_387 : decode cL_tents 387 = .ok (.ireturn, 1) := by decide +kernel
theorem dL_tents_388 : decode cL_tents 388 = .ok (.iinc 7 1, 3) := by decide +kernel
theorem dL_tents_391 : decode cL_tents 391 = .ok (.goto (-31), 3) := by decide +kernel
theorem dL_tents_394 : decode cL_tents 394 = .ok (.iinc 1 1, 3) := by decide +kernel
theorem dL_tents_397 : decode cL_tents 397 = .ok (.goto (-395), 3) := by decide +kernel
theorem dL_tents_400 : decode cL_tents 400 = .ok (.iconst 1, 1) := by decide +kernel
theorem dL_tents_401 : decode cL_tents 401 = .ok (.ireturn, 1) := by decide +kernel
theorem dL_best_0 : decode cL_best 0 = .ok (.bipush (-13), 2) := by decide +kernel
theorem dL_best_2 : decode cL_best 2 = .ok (.istore_n 1, 1) := by decide +kernel
theorem dL_best_3 : decode cL_best 3 = .ok (.aload_n 0, 1) := by decide +kernel
theorem dL_best_4 : decode cL_best 4 = .ok (.iconst 1, 1) := by decide +kernel
theorem dL_best_5 : decode cL_best 5 = .ok (.invokevirtual 184, 3) := by decide +kernel
theorem dL_best_8 : decode cL_best 8 = .ok (.iconst 1, 1) := by decide +kernel
theorem dL_best_9 : decode cL_best 9 = .ok (.isub, 1) := by decide +kernel
theorem dL_best_10 : decode cL_best 10 = .ok (.istore_n 2, 1) := by decide +kernel
theorem dL_best_11 : decode cL_best 11 = .ok (.iload_n 2, 1) := by decide +kernel
theorem dL_best_12 : decode cL_best 12 = .ok (.ifCond .lt 159, 3) := by decide +kernel
theorem dL_best_15 : decode cL_best 15 = .ok (.aload_n 0, 1) := by decide +kernel
theorem dL_best_16 : decode cL_best 16 = .ok (.iload_n 2, 1) := by decide +kernel
theorem dL_best_17 : decode cL_best 17 = .ok (.iconst 2, 1) := by decide +kernel
theorem dL_best_18 : decode cL_best 18 = .ok (.invokestatic 187, 3) := by decide +kernel
theorem dL_best_21 : decode cL_best 21 = .ok (.istore_n 3, 1) := by decide +kernel
theorem dL_best_22 : decode cL_best 22 = .ok (.bipush 7, 2) := by decide +kernel
theorem dL_best_24 : decode cL_best 24 = .ok (.istore 4, 2) := by decide +kernel
theorem dL_best_26 : decode cL_best 26 = .ok (.iload 4, 2) := by decide +kernel
theorem dL_best_28 : decode cL_best 28 = .ok (.ifCond .lt 63, 3) := by decide +kernel
theorem dL_best_31 : decode cL_best 31 = .ok (.bipush (-13), 2) := by decide +kernel
theorem dL_best_33 : decode cL_best 33 = .ok (.istore 5, 2) := by decide +kernel
theorem dL_best_35 : decode cL_best 35 = .ok (.bipush 7, 2) := by decide +kernel
theorem dL_best_37 : decode cL_best 37 = .ok (.istore 6, 2) := by decide +kernel
theorem dL_best_39 : decode cL_best 39 = .ok (.iload 6, 2) := by decide +kernel
theorem dL_best_41 : decode cL_best 41 = .ok (.iload 4, 2) := by decide +kernel
theorem dL_best_43 : decode cL_best 43 = .ok (.if_icmp .lt 28, 3) := by decide +kernel
theorem dL_best_46 : decode cL_best 46 = .ok (.iload_n 3, 1) := by decide +kernel
theorem dL_best_47 : decode cL_best 47 = .ok (.iload 6, 2) := by decide +kernel
theorem dL_best_49 : decode cL_best 49 = .ok (.ishr, 1) := by decide +kernel
theorem dL_best_50 : decode cL_best 50 = .ok (.iconst 1, 1) := by decide +kernel
theorem dL_best_51 : decode cL_best 51 = .ok (.iand, 1) := by decide +kernel
theorem dL_best_52 : decode cL_best 52 = .ok (.iconst 1, 1) := by decide +kernel
theorem dL_best_53 : decode cL_best 53 = .ok (.if_icmp .ne 8, 3) := by decide +kernel
theorem dL_best_56 : decode cL_best 56 = .ok (.iload 6, 2) := by decide +kernel
theorem dL_best_58 : decode cL_best 58 = .ok (.goto 5, 3) := by decide +kernel
theorem dL_best_61 : decode cL_best 61 = .ok (.iload 5, 2) := by decide +kernel
theorem dL_best_63 : decode cL_best 63 = .ok (.istore 5, 2) := by decide +kernel
theorem dL_best_65 : decode cL_best 65 = .ok (.iinc 6 (-1), 3) := by decide +kernel
theorem dL_best_68 : decode cL_best 68 = .ok (.goto (-29), 3) := by decide +kernel
theorem dL_best_71 : decode cL_best 71 = .ok (.aload_n 0, 1) := by decide +kernel
theorem dL_best_72 : decode cL_best 72 = .ok (.iload_n 2, 1) := by decide +kernel
theorem dL_best_73 : decode cL_best 73 = .ok (.iload 4, 2) := by decide +kernel
theorem dL_best_75 : decode cL_best 75 = .ok (.invokestatic 246, 3) := by decide +kernel
theorem dL_best_78 : decode cL_best 78 = .ok (.iload 5, 2) := by decide +kernel
theorem dL_best_80 : decode cL_best 80 = .ok (.if_icmp .eq 5, 3) := by decide +kernel
theorem dL_best_83 : decode cL_best 83 = .ok (.iconst 0, 1) := by decide +kernel
theorem dL_best_84 : decode cL_best 84 = .ok (.ireturn, 1) := by decide +kernel
theorem dL_best_85 : decode cL_best 85 = .ok (.iinc 4 (-1), 3) := by decide +kernel
theorem dL_best_88 : decode cL_best 88 = .ok (.goto (-62), 3) := by decide +kernel
theorem dL_best_91 : decode cL_best 91 = .ok (.sipush 1000, 3) := by decide +kernel
theorem dL_best_94 : decode cL_best 94 = .ok (.aload_n 0, 1) := by decide +kernel
theorem dL_best_95 : decode cL_best 95 = .ok (.iload_n 2, 1) := by decide +kernel
theorem dL_best_96 : decode cL_best 96 = .ok (.iconst 0, 1) := by decide +kernel
theorem dL_best_97 : decode cL_best 97 = .ok (.invokestatic 187, 3) := by decide +kernel
theorem dL_best_100 : decode cL_best 100 = .ok (.imul, 1) := by decide +kernel
theorem dL_best_101 : decode cL_best 101 = .ok (.aload_n 0, 1) := by decide +kernel
theorem dL_best_102 : decode cL_best 102 = .ok (.iload_n 2, 1) := by decide +kernel
theorem dL_best_103 : decode cL_best 103 = .ok (.bipush 6, 2) := by decide +kernel
theorem dL_best_105 : decode cL_best 105 = .ok (.invokestatic 187, 3) := by decide +kernel
theorem dL_best_108 : decode cL_best 108 = .ok (.isub, 1) := by decide +kernel
theorem dL_best_109 : decode cL_best 109 = .ok (.istore 4, 2) := by decide +kernel
theorem dL_best_111 : decode cL_best 111 = .ok (.iload_n 1, 1) := by decide +kernel
theorem dL_best_112 : decode cL_best 112 = .ok (.ifCond .ge 7, 3) := by decide +kernel
theorem dL_best_115 : decode cL_best 115 = .ok (.iconst (-1), 1) := by decide +kernel
theorem dL_best_116 : decode cL_best 116 = .ok (.goto 21, 3) := by decide +kernel
theorem dL_best_119 : decode cL_best 119 = .ok (.sipush 1000, 3) := by decide +kernel
theorem dL_best_122 : decode cL_best 122 = .ok (.aload_n 0, 1) := by decide +kernel
theorem dL_best_123 : decode cL_best 123 = .ok (.iload_n 1, 1) := by decide +kernel
theorem dL_best_124 : decode cL_best 124 = .ok (.iconst 0, 1) := by decide +kernel
theorem dL_best_125 : decode cL_best 125 = .ok (.invokestatic 187, 3) := by decide +kernel
theorem dL_best_128 : decode cL_best 128 = .ok (.imul, 1) := by decide +kernel
theorem dL_best_129 : decode cL_best 129 = .ok (.aload_n 0, 1) := by decide +kernel
theorem dL_best_130 : decode cL_best 130 = .ok (.iload_n 1, 1) := by decide +kernel
theorem dL_best_131 : decode cL_best 131 = .ok (.bipush 6, 2) := by decide +kernel
theorem dL_best_133 : decode cL_best 133 = .ok (.invokestatic 187, 3) := by decide +kernel
theorem dL_best_136 : decode cL_best 136 = .ok (.isub, 1) := by decide +kernel
theorem dL_best_137 : decode cL_best 137 = .ok (.istore 5, 2) := by decide +kernel
theorem dL_best_139 : decode cL_best 139 = .ok (.aload_n 0, 1) := by decide +kernel
theorem dL_best_140 : decode cL_best 140 = .ok (.iload_n 2, 1) := by decide +kernel
theorem dL_best_141 : decode cL_best 141 = .ok (.iconst 1, 1) := by decide +kernel
theorem dL_best_142 : decode cL_best 142 = .ok (.invokestatic 187, 3) := by decide +kernel
theorem dL_best_145 : decode cL_best 145 = .ok (.ifCond .ge 18, 3) := by decide +kernel
theorem dL_best_148 : decode cL_best 148 = .ok (.iload_n 3, 1) := by decide +kernel
theorem dL_best_149 : decode cL_best 149 = .ok (.ifCond .ne 14, 3) := by decide +kernel
theorem dL_best_152 : decode cL_best 152 = .ok (.iload 4, 2) := by decide +kernel
theorem dL_best_154 : decode cL_best 154 = .ok (.iload 5, 2) := by decide +kernel
theorem dL_best_156 : decode cL_best 156 = .ok (.if_icmp .lt 7, 3) := by decide +kernel
theorem dL_best_159 : decode cL_best 159 = .ok (.iload_n 2, 1) := by decide +kernel
theorem dL_best_160 : decode cL_best 160 = .ok (.goto 4, 3) := by decide +kernel
theorem dL_best_163 : decode cL_best 163 = .ok (.iload_n 1, 1) := by decide +kernel
theorem dL_best_164 : decode cL_best 164 = .ok (.istore_n 1, 1) := by decide +kernel
theorem dL_best_165 : decode cL_best 165 = .ok (.iinc 2 (-1), 3) := by decide +kernel
theorem dL_best_168 : decode cL_best 168 = .ok (.goto (-157), 3) := by decide +kernel
theorem dL_best_171 : decode cL_best 171 = .ok (.iconst 1, 1) := by decide +kernel
theorem dL_best_172 : decode cL_best 172 = .ok (.istore_n 2, 1) := by decide +kernel
theorem dL_best_173 : decode cL_best 173 = .ok (.iload_n 2, 1) := by decide +kernel
theorem dL_best_174 : decode cL_best 174 = .ok (.iconst 4, 1) := by decide +kernel
theorem dL_best_175 : decode cL_best 175 = .ok (.if_icmp .ge 82, 3) := by decide +kernel
theorem dL_best_178 : decode cL_best 178 = .ok (.bipush 10, 2) := by decide +kernel
theorem dL_best_180 : decode cL_best 180 = .ok (.istore_n 3, 1) := by decide +kernel
theorem dL_best_181 : decode cL_best 181 = .ok (.iload_n 3, 1) := by decide +kernel
theorem dL_best_182 : decode cL_best 182 = .ok (.bipush 61, 2) := by decide +kernel
theorem dL_best_184 : decode cL_best 184 = .ok (.if_icmp .ge 67, 3) := by decide +kernel
theorem dL_best_187 : decode cL_best 187 = .ok (.aload_n 0, 1) := by decide +kernel
theorem dL_best_188 : decode cL_best 188 = .ok (.iload_n 2, 1) := by decide +kernel
theorem dL_best_189 : decode cL_best 189 = .ok (.iload_n 3, 1) := by decide +kernel
theorem dL_best_190 : decode cL_best 190 = .ok (.invokestatic 248, 3) := by decide +kernel
theorem dL_best_193 : decode cL_best 193 = .ok (.istore 4, 2) := by decide +kernel
theorem dL_best_195 : decode cL_best 195 = .ok (.bipush 12, 2) := by decide +kernel
theorem dL_best_197 : decode cL_best 197 = .ok (.iload_n 2, 1) := by decide +kernel
theorem dL_best_198 : decode cL_best 198 = .ok (.idiv, 1) := by decide +kernel
theorem dL_best_199 : decode cL_best 199 = .ok (.istore 5, 2) := by decide +kernel
theorem dL_best_201 : decode cL_best 201 = .ok (.iload 4, 2) := by decide +kernel
theorem dL_best_203 : decode cL_best 203 = .ok (.aload_n 0, 1) := by decide +kernel
theorem dL_best_204 : decode cL_best 204 = .ok (.iload_n 2, 1) := by decide +kernel
theorem dL_best_205 : decode cL_best 205 = .ok (.iload_n 3, 1) := by decide +kernel
theorem dL_best_206 : decode cL_best 206 = .ok (.invokestatic 250, 3) := by decide +kernel
theorem dL_best_209 : decode cL_best 209 = .ok (.if_icmp .ne 34, 3) := by decide +kernel
theorem dL_best_212 : decode cL_best 212 = .ok (.iload_n 3, 1) := by decide +kernel
theorem dL_best_213 : decode cL_best 213 = .ok (.iload 4, 2) := by decide +kernel
theorem dL_best_215 : decode cL_best 215 = .ok (.iload 5, 2) := by decide +kernel
theorem dL_best_217 : decode cL_best 217 = .ok (.imul, 1) := by decide +kernel
theorem dL_best_218 : decode cL_best 218 = .ok (.iadd, 1) := by decide +kernel
theorem dL_best_219 : decode cL_best 219 = .ok (.bipush 38, 2) := by decide +kernel
theorem dL_best_221 : decode cL_best 221 = .ok (.if_icmp .lt 22, 3) := by decide +kernel
theorem dL_best_224 : decode cL_best 224 = .ok (.iload 4, 2) := by decide +kernel
theorem dL_best_226 : decode cL_best 226 = .ok (.ifCond .le 19, 3) := by decide +kernel
theorem dL_best_229 : decode cL_best 229 = .ok (.iload_n 3, 1) := by decide +kernel
theorem dL_best_230 : decode cL_best 230 = .ok (.iload 4, 2) := by decide +kernel
theorem dL_best_232 : decode cL_best 232 = .ok (.iconst 1, 1) := by decide +kernel
theorem dL_best_233 : decode cL_best 233 = .ok (.isub, 1) := by decide +kernel
theorem dL_best_234 : decode cL_best 234 = .ok (.iload 5, 2) := by decide +kernel
theorem dL_best_236 : decode cL_best 236 = .ok (.imul, 1) := by decide +kernel
theorem dL_best_237 : decode cL_best 237 = .ok (.iadd, 1) := by decide +kernel
theorem dL_best_238 : decode cL_best 238 = .ok (.bipush 38, 2) := by decide +kernel
theorem dL_best_240 : decode cL_best 240 = .ok (.if_icmp .lt 5, 3) := by decide +kernel
theorem dL_best_243 : decode cL_best 243 = .ok (.iconst 0, 1) := by decide +kernel
theorem dL_best_244 : decode cL_best 244 = .ok (.ireturn, 1) := by decide +kernel
theorem dL_best_245 : decode cL_best 245 = .ok (.iinc 3 1, 3) := by decide +kernel
theorem dL_best_248 : decode cL_best 248 = .ok (.goto (-67), 3) := by decide +kernel
theorem dL_best_251 : decode cL_best 251 = .ok (.iinc 2 1, 3) := by decide +kernel
theorem dL_best_254 : decode cL_best 254 = .ok (.goto (-81), 3) := by decide +kernel
theorem dL_best_257 : decode cL_best 257 = .ok (.aload_n 0, 1) := by decide +kernel
theorem dL_best_258 : decode cL_best 258 = .ok (.invokestatic 252, 3) := by decide +kernel
theorem dL_best_261 : decode cL_best 261 = .ok (.iload_n 1, 1) := by decide +kernel
theorem dL_best_262 : decode cL_best 262 = .ok (.if_icmp .ne 7, 3) := by decide +kernel
theorem dL_best_265 : decode cL_best 265 = .ok (.iconst 1, 1) := by decide +kernel
theorem dL_best_266 : decode cL_best 266 = .ok (.goto 4, 3) := by decide +kernel
theorem dL_best_269 : decode cL_best 269 = .ok (.iconst 0, 1) := by decide +kernel
theorem dL_best_270 : decode cL_best 270 = .ok (.ireturn, 1) := by decide +kernel
theorem dL_ahead_0 : decode cL_ahead 0 = .ok (.aload_n 0, 1) := by decide +kernel
theorem dL_ahead_1 : decode cL_ahead 1 = .ok (.bipush 10, 2) := by decide +kernel
theorem dL_ahead_3 : decode cL_ahead 3 = .ok (.invokevirtual 184, 3) := by decide +kernel
theorem dL_ahead_6 : decode cL_ahead 6 = .ok (.istore_n 1, 1) := by decide +kernel
theorem dL_ahead_7 : decode cL_ahead 7 = .ok (.bipush 64, 2) := by decide +kernel
theorem dL_ahead_9 : decode cL_ahead 9 = .ok (.newarray .int, 2) := by decide +kernel
theorem dL_ahead_11 : decode cL_ahead 11 = .ok (.astore_n 2, 1) := by decide +kernel
theorem dL_ahead_12 : decode cL_ahead 12 = .ok (.iconst 0, 1) := by decide +kernel
theorem dL_ahead_13 : decode cL_ahead 13 = .ok (.istore_n 3, 1) := by decide +kernel
theorem dL_ahead_14 : decode cL_ahead 14 = .ok (.iload_n 3, 1) := by decide +kernel
theorem dL_ahead_15 : decode cL_ahead 15 = .ok (.iload_n 1, 1) := by decide +kernel
theorem dL_ahead_16 : decode cL_ahead 16 = .ok (.if_icmp .ge 23, 3) := by decide +kernel
theorem dL_ahead_19 : decode cL_ahead 19 = .ok (.iload_n 3, 1) := by decide +kernel
theorem dL_ahead_20 : decode cL_ahead 20 = .ok (.bipush 64, 2) := by decide +kernel
theorem dL_ahead_22 : decode cL_ahead 22 = .ok (.if_icmp .ge 17, 3) := by decide +kernel
theorem dL_ahead_25 : decode cL_ahead 25 = .ok (.aload_n 2, 1) := by decide +kernel
theorem dL_ahead_26 : decode cL_ahead 26 = .ok (.iload_n 3, 1) := by decide +kernel
theorem dL_ahead_27 : decode cL_ahead 27 = .ok (.aload_n 0, 1) := by decide +kernel
theorem dL_ahead_28 : decode cL_ahead 28 = .ok (.iload_n 3, 1) := by decide +kernel
theorem dL_ahead_29 : decode cL_ahead 29 = .ok (.invokestatic 254, 3) := by decide +kernel
theorem dL_ahead_32 : decode cL_ahead 32 = .ok (.iastore, 1) := by decide +kernel
theorem dL_ahead_33 : decode cL_ahead 33 = .ok (.iinc 3 1, 3) := by decide +kernel
theorem dL_ahead_36 : decode cL_ahead 36 = .ok (.goto (-22), 3) := by decide +kernel
theorem dL_ahead_39 : decode cL_ahead 39 = .ok (.aload_n 0, 1) := by decide +kernel
theorem dL_ahead_40 : decode cL_ahead 40 = .ok (.iload_n 1, 1) := by decide +kernel
theorem dL_ahead_41 : decode cL_ahead 41 = .ok (.invokestatic 254, 3) := by decide +kernel
theorem dL_ahead_44 : decode cL_ahead 44 = .ok (.bipush (-13), 2) := by decide +kernel
theorem dL_ahead_46 : decode cL_ahead 46 = .ok (.if_icmp .ne 13, 3) := by decide +kernel
theorem dL_ahead_49 : decode cL_ahead 49 = .ok (.aload_n 0, 1) := by decide +kernel
theorem dL_ahead_50 : decode cL_ahead 50 = .ok (.iconst (-1), 1) := by decide +kernel
theorem dL_ahead_51 : decode cL_ahead 51 = .ok (.invokestatic 254, 3) := by decide +kernel
theorem dL_ahead_54 : decode cL_ahead 54 = .ok (.bipush (-13), 2) := by decide +kernel
theorem dL_ahead_56 : decode cL_ahead 56 = .ok (.if_icmp .eq 5, 3) := by decide +kernel
theorem dL_ahead_59 : decode cL_ahead 59 = .ok (.iconst 0, 1) := by decide +kernel
theorem dL_ahead_60 : decode cL_ahead 60 = .ok (.ireturn, 1) := by decide +kernel
theorem dL_ahead_61 : decode cL_ahead 61 = .ok (.iconst 1, 1) := by decide +kernel
theorem dL_ahead_62 : decode cL_ahead 62 = .ok (.istore_n 3, 1) := by decide +kernel
theorem dL_ahead_63 : decode cL_ahead 63 = .ok (.iload_n 3, 1) := by decide +kernel
theorem dL_ahead_64 : decode cL_ahead 64 = .ok (.bipush 30, 2) := by decide +kernel
theorem dL_ahead_66 : decode cL_ahead 66 = .ok (.if_icmp .ge 183, 3) := by decide +kernel
theorem dL_ahead_69 : decode cL_ahead 69 = .ok (.iconst 0, 1) := by decide +kernel
theorem dL_ahead_70 : decode cL_ahead 70 = .ok (.istore 4, 2) := by decide +kernel
theorem dL_ahead_72 : decode cL_ahead 72 = .ok (.iconst 0, 1) := by decide +kernel
theorem dL_ahead_73 : decode cL_ahead 73 = .ok (.istore 5, 2) := by decide +kernel
theorem dL_ahead_75 : decode cL_ahead 75 = .ok (.iload 5, 2) := by decide +kernel
theorem dL_ahead_77 : decode cL_ahead 77 = .ok (.iload_n 1, 1) := by decide +kernel
theorem dL_ahead_78 : decode cL_ahead 78 = .ok (.if_icmp .ge 41, 3) := by decide +kernel
theorem dL_ahead_81 : decode cL_ahead 81 = .ok (.iload 5, 2) := by decide +kernel
theorem dL_ahead_83 : decode cL_ahead 83 = .ok (.bipush 64, 2) := by decide +kernel
theorem dL_ahead_85 : decode cL_ahead 85 = .ok (.if_icmp .ge 34, 3) := by decide +kernel
theorem dL_ahead_88 : decode cL_ahead 88 = .ok (.iload 4, 2) := by decide +kernel
theorem dL_ahead_90 : decode cL_ahead 90 = .ok (.aload_n 2, 1) := by decide +kernel
theorem dL_ahead_91 : decode cL_ahead 91 = .ok (.iload 5, 2) := by decide +kernel
theorem dL_ahead_93 : decode cL_ahead 93 = .ok (.iaload, 1) := by decide +kernel
theorem dL_ahead_94 : decode cL_ahead 94 = .ok (.ifCond .le 15, 3) := by decide +kernel
theorem dL_ahead_97 : decode cL_ahead 97 = .ok (.aload_n 2, 1) := by decide +kernel
theorem dL_ahead_98 : decode cL_ahead 98 = .ok (.iload 5, 2) := by decide +kernel
theorem dL_ahead_100 : decode cL_ahead 100 = .ok (.iaload, 1) := by decide +kernel
theorem dL_ahead_101 : decode cL_ahead 101 = .ok (.iload_n 3, 1) := by decide +kernel
theorem dL_ahead_102 : decode cL_ahead 102 = .ok (.if_icmp .gt 7, 3) := by decide +kernel
theorem dL_ahead_105 : decode cL_ahead 105 = .ok (.iconst 1, 1) := by decide +kernel
theorem dL_ahead_106 : decode cL_ahead 106 = .ok (.goto 4, 3) := by decide +kernel
theorem dL_ahead_109 : decode cL_ahead 109 = .ok (.iconst 0, 1) := by decide +kernel
theorem dL_ahead_110 : decode cL_ahead 110 = .ok (.iadd, 1) := by decide +kernel
theorem dL_ahead_111 : decode cL_ahead 111 = .ok (.istore 4, 2) := by decide +kernel
theorem dL_ahead_113 : decode cL_ahead 113 = .ok (.iinc 5 1, 3) := by decide +kernel
theorem dL_ahead_116 : decode cL_ahead 116 = .ok (.goto (-41), 3) := by decide +kernel
theorem dL_ahead_119 : decode cL_ahead 119 = .ok (.aload_n 0, 1) := by decide +kernel
theorem dL_ahead_120 : decode cL_ahead 120 = .ok (.iconst 0, 1) := by decide +kernel
theorem dL_ahead_121 : decode cL_ahead 121 = .ok (.invokevirtual 184, 3) := by decide +kernel
theorem dL_ahead_124 : decode cL_ahead 124 = .ok (.istore 5, 2) := by decide +kernel
theorem dL_ahead_126 : decode cL_ahead 126 = .ok (.aload_n 0, 1) := by decide +kernel
theorem dL_ahead_127 : decode cL_ahead 127 = .ok (.iload_n 3, 1) := by decide +kernel
theorem dL_ahead_128 : decode cL_ahead 128 = .ok (.invokestatic 158, 3) := by decide +kernel
theorem dL_ahead_131 : decode cL_ahead 131 = .ok (.iload 4, 2) := by decide +kernel
theorem dL_ahead_133 : decode cL_ahead 133 = .ok (.if_icmp .ne 22, 3) := by decide +kernel
theorem dL_ahead_136 : decode cL_ahead 136 = .ok (.aload_n 0, 1) := by decide +kernel
theorem dL_ahead_137 : decode cL_ahead 137 = .ok (.iconst 0, 1) := by decide +kernel
theorem dL_ahead_138 : decode cL_ahead 138 = .ok (.invokevirtual 184, 3) := by decide +kernel
theorem dL_ahead_141 : decode cL_ahead 141 = .ok (.iload 5, 2) := by decide +kernel
theorem dL_ahead_143 : decode cL_ahead 143 = .ok (.iload_n 3, 1) := by decide +kernel
theorem dL_ahead_144 : decode cL_ahead 144 = .ok (.iadd, 1) := by decide +kernel
theorem dL_ahead_145 : decode cL_ahead 145 = .ok (.if_icmp .ne 10, 3) := by decide +kernel
theorem dL_ahead_148 : decode cL_ahead 148 = .ok (.aload_n 0, 1) := by decide +kernel
theorem dL_ahead_149 : decode cL_ahead 149 = .ok (.invokestatic 167, 3) := by decide +kernel
theorem dL_ahead_152 : decode cL_ahead 152 = .ok (.ifCond .ne 5, 3) := by decide +kernel
theorem dL_ahead_155 : decode cL_ahead 155 = .ok (.iconst 0, 1) := by decide +kernel
theorem dL_ahead_156 : decode cL_ahead 156 = .ok (.ireturn, 1) := by decide +kernel
theorem dL_ahead_157 : decode cL_ahead 157 = .ok (.iconst 0, 1) := by decide +kernel
theorem dL_ahead_158 : decode cL_ahead 158 = .ok (.istore 6, 2) := by decide +kernel
theorem dL_ahead_160 : decode cL_ahead 160 = .ok (.iload 6, 2) := by decide +kernel
theorem dL_ahead_162 : decode cL_ahead 162 = .ok (.aload_n 0, 1) := by decide +kernel
theorem dL_ahead_163 : decode cL_ahead 163 = .ok (.iconst 4, 1) := by decide +kernel
theorem dL_ahead_164 : decode cL_ahead 164 = .ok (.invokevirtual 184, 3) := by decide +kernel
theorem dL_ahead_167 : decode cL_ahead 167 = .ok (.if_icmp .ge 57, 3) := by decide +kernel
theorem dL_ahead_170 : decode cL_ahead 170 = .ok (.iconst 0, 1) := by decide +kernel
theorem dL_ahead_171 : decode cL_ahead 171 = .ok (.istore 7, 2) := by decide +kernel
theorem dL_ahead_173 : decode cL_ahead 173 = .ok (.iload 7, 2) := by decide +kernel
theorem dL_ahead_175 : decode cL_ahead 175 = .ok (.aload_n 0, 1) := by decide +kernel
theorem dL_ahead_176 : decode cL_ahead 176 = .ok (.iload 6, 2) := by decide +kernel
theorem dL_ahead_178 : decode cL_ahead 178 = .ok (.iconst 3, 1) := by decide +kernel
theorem dL_ahead_179 : decode cL_ahead 179 = .ok (.invokestatic 189, 3) := by decide +kernel
theorem dL_ahead_182 : decode cL_ahead 182 = .ok (.if_icmp .ge 36, 3) := by decide +kernel
theorem dL_ahead_185 : decode cL_ahead 185 = .ok (.aload_n 0, 1) := by decide +kernel
theorem dL_ahead_186 : decode cL_ahead 186 = .ok (.iload 6, 2) := by decide +kernel
theorem dL_ahead_188 : decode cL_ahead 188 = .ok (.iload 7, 2) := by decide +kernel
theorem dL_ahead_190 : decode cL_ahead 190 = .ok (.invokestatic 205, 3) := by decide +kernel
theorem dL_ahead_193 : decode cL_ahead 193 = .ok (.istore 8, 2) := by decide +kernel
theorem dL_ahead_195 : decode cL_ahead 195 = .ok (.aload_n 2, 1) := by decide +kernel
theorem dL_ahead_196 : decode cL_ahead 196 = .ok (.iload 8, 2) := by decide +kernel
theorem dL_ahead_198 : decode cL_ahead 198 = .ok (.iaload, 1) := by decide +kernel
theorem dL_ahead_199 : decode cL_ahead 199 = .ok (.ifCond .le 13, 3) := by decide +kernel
theorem dL_ahead_202 : decode cL_ahead 202 = .ok (.aload_n 2, 1) := by decide +kernel
theorem dL_ahead_203 : decode cL_ahead 203 = .ok (.iload 8, 2) := by decide +kernel
theorem dL_ahead_205 : decode cL_ahead 205 = .ok (.iaload, 1) := by decide +kernel
theorem dL_ahead_206 : decode cL_ahead 206 = .ok (.iload_n 3, 1) := by decide +kernel
theorem dL_ahead_207 : decode cL_ahead 207 = .ok (.if_icmp .gt 5, 3) := by decide +kernel
theorem dL_ahead_210 : decode cL_ahead 210 = .ok (.iconst 0, 1) := by decide +kernel
theorem dL_ahead_211 : decode cL_ahead 211 = .ok (.ireturn, 1) := by decide +kernel
theorem dL_ahead_212 : decode cL_ahead 212 = .ok (.iinc 7 1, 3) := by decide +kernel
theorem dL_ahead_215 : decode cL_ahead 215 = .ok (.goto (-42), 3) := by decide +kernel
theorem dL_ahead_218 : decode cL_ahead 218 = .ok (.iinc 6 1, 3) := by decide +kernel
theorem dL_ahead_221 : decode cL_ahead 221 = .ok (.goto (-61), 3) := by decide +kernel
theorem dL_ahead_224 : decode cL_ahead 224 = .ok (.aload_n 0, 1) := by decide +kernel
theorem dL_ahead_225 : decode cL_ahead 225 = .ok (.invokestatic 256, 3) := by decide +kernel
theorem dL_ahead_228 : decode cL_ahead 228 = .ok (.ifCond .lt 13, 3) := by decide +kernel
theorem dL_ahead_231 : decode cL_ahead 231 = .ok (.aload_n 0, 1) := by decide +kernel
theorem dL_ahead_232 : decode cL_ahead 232 = .ok (.iconst 0, 1) := by decide +kernel
theorem dL_ahead_233 : decode cL_ahead 233 = .ok (.invokevirtual 184, 3) := by decide +kernel
theorem dL_ahead_236 : decode cL_ahead 236 = .ok (.iload 5, 2) := by decide +kernel
theorem dL_ahead_238 : decode cL_ahead 238 = .ok (.if_icmp .eq 5, 3) := by decide +kernel
theorem dL_ahead_241 : decode cL_ahead 241 = .ok (.iconst 0, 1) := by decide +kernel
theorem dL_ahead_242 : decode cL_ahead 242 = .ok (.ireturn, 1) := by decide +kernel
theorem dL_ahead_243 : decode cL_ahead 243 = .ok (.iinc 3 3, 3) := by decide +kernel
theorem dL_ahead_246 : decode cL_ahead 246 = .ok (.goto (-183), 3) := by decide +kernel
theorem dL_ahead_249 : decode cL_ahead 249 = .ok (.iconst 1, 1) := by decide +kernel
theorem dL_ahead_250 : decode cL_ahead 250 = .ok (.ireturn, 1) := by decide +kernel
theorem dL_sum_0 : decode cL_sum 0 = .ok (.ldc2_w 258, 3) := by decide +kernel
theorem dL_sum_3 : decode cL_sum 3 = .ok (.lstore_n 1, 1) := by decide +kernel
theorem dL_sum_4 : decode cL_sum 4 = .ok (.iconst 0, 1) := by decide +kernel
theorem dL_sum_5 : decode cL_sum 5 = .ok (.istore_n 3, 1) := by decide +kernel
theorem dL_sum_6 : decode cL_sum 6 = .ok (.iload_n 3, 1) := by decide +kernel
theorem dL_sum_7 : decode cL_sum 7 = .ok (.bipush 15, 2) := by decide +kernel
theorem dL_sum_9 : decode cL_sum 9 = .ok (.if_icmp .ge 22, 3) := by decide +kernel
theorem dL_sum_12 : decode cL_sum 12 = .ok (.ldc2_w 260, 3) := by decide +kernel
theorem dL_sum_15 : decode cL_sum 15 = .ok (.lload_n 1, 1) := by decide +kernel
theorem dL_sum_16 : decode cL_sum 16 = .ok (.lmul, 1) := by decide +kernel
theorem dL_sum_17 : decode cL_sum 17 = .ok (.aload_n 0, 1) := by decide +kernel
theorem dL_sum_18 : decode cL_sum 18 = .ok (.iload_n 3, 1) := by decide +kernel
theorem dL_sum_19 : decode cL_sum 19 = .ok (.invokevirtual 184, 3) := by decide +kernel
theorem dL_sum_22 : decode cL_sum 22 = .ok (.i2l, 1) := by decide +kernel
theorem dL_sum_23 : decode cL_sum 23 = .ok (.ladd, 1) := by decide +kernel
theorem dL_sum_24 : decode cL_sum 24 = .ok (.lstore_n 1, 1) := by decide +kernel
theorem dL_sum_25 : decode cL_sum 25 = .ok (.iinc 3 1, 3) := by decide +kernel
theorem dL_sum_28 : decode cL_sum 28 = .ok (.goto (-22), 3) := by decide +kernel
theorem dL_sum_31 : decode cL_sum 31 = .ok (.iconst 0, 1) := by decide +kernel
theorem dL_sum_32 : decode cL_sum 32 = .ok (.istore_n 3, 1) := by decide +kernel
theorem dL_sum_33 : decode cL_sum 33 = .ok (.iload_n 3, 1) := by decide +kernel
theorem dL_sum_34 : decode cL_sum 34 = .ok (.aload_n 0, 1) := by decide +kernel
theorem dL_sum_35 : decode cL_sum 35 = .ok (.iconst 1, 1) := by decide +kernel
theorem dL_sum_36 : decode cL_sum 36 = .ok (.invokevirtual 184, 3) := by decide +kernel
theorem dL_sum_39 : decode cL_sum 39 = .ok (.if_icmp .ge 40, 3) := by decide +kernel
theorem dL_sum_42 : decode cL_sum 42 = .ok (.iconst 0, 1) := by decide +kernel
theorem dL_sum_43 : decode cL_sum 43 = .ok (.istore 4, 2) := by decide +kernel
theorem dL_sum_45 : decode cL_sum 45 = .ok (.iload 4, 2) := by decide +kernel
theorem dL_sum_47 : decode cL_sum 47 = .ok (.bipush 7, 2) := by decide +kernel
theorem dL_sum_49 : decode cL_sum 49 = .ok (.if_icmp .ge 24, 3) := by decide +kernel
theorem dL_sum_52 : decode cL_sum 52 = .ok (.ldc2_w 262, 3) := by decide +kernel
theorem dL_sum_55 : decode cL_sum 55 = .ok (.lload_n 1, 1) := by decide +kernel
theorem dL_sum_56 : decode cL_sum 56 = .ok (.lmul, 1) := by decide +kernel
theorem dL_sum_57 : decode cL_sum 57 = .ok (.aload_n 0, 1) := by decide +kernel
theorem dL_sum_58 : decode cL_sum 58 = .ok (.iload_n 3, 1) := by decide +kernel
theorem dL_sum_59 : decode cL_sum 59 = .ok (.iload 4, 2) := by decide +kernel
theorem dL_sum_61 : decode cL_sum 61 = .ok (.invokestatic 187, 3) := by decide +kernel
theorem dL_sum_64 : decode cL_sum 64 = .ok (.i2l, 1) := by decide +kernel
theorem dL_sum_65 : decode cL_sum 65 = .ok (.ladd, 1) := by decide +kernel
theorem dL_sum_66 : decode cL_sum 66 = .ok (.lstore_n 1, 1) := by decide +kernel
theorem dL_sum_67 : decode cL_sum 67 = .ok (.iinc 4 1, 3) := by decide +kernel
theorem dL_sum_70 : decode cL_sum 70 = .ok (.goto (-25), 3) := by decide +kernel
theorem dL_sum_73 : decode cL_sum 73 = .ok (.iinc 3 1, 3) := by decide +kernel
theorem dL_sum_76 : decode cL_sum 76 = .ok (.goto (-43), 3) := by decide +kernel
theorem dL_sum_79 : decode cL_sum 79 = .ok (.iconst 0, 1) := by decide +kernel
theorem dL_sum_80 : decode cL_sum 80 = .ok (.istore_n 3, 1) := by decide +kernel
theorem dL_sum_81 : decode cL_sum 81 = .ok (.iload_n 3, 1) := by decide +kernel
theorem dL_sum_82 : decode cL_sum 82 = .ok (.aload_n 0, 1) := by decide +kernel
theorem dL_sum_83 : decode cL_sum 83 = .ok (.iconst 4, 1) := by decide +kernel
theorem dL_sum_84 : decode cL_sum 84 = .ok (.invokevirtual 184, 3) := by decide +kernel
theorem dL_sum_87 : decode cL_sum 87 = .ok (.if_icmp .ge 74, 3) := by decide +kernel
theorem dL_sum_90 : decode cL_sum 90 = .ok (.iconst 0, 1) := by decide +kernel
theorem dL_sum_91 : decode cL_sum 91 = .ok (.istore 4, 2) := by decide +kernel
theorem dL_sum_93 : decode cL_sum 93 = .ok (.iload 4, 2) := by decide +kernel
theorem dL_sum_95 : decode cL_sum 95 = .ok (.iconst 5, 1) := by decide +kernel
theorem dL_sum_96 : decode cL_sum 96 = .ok (.if_icmp .ge 24, 3) := by decide +kernel
theorem dL_sum_99 : decode cL_sum 99 = .ok (.ldc2_w 264, 3) := by decide +kernel
theorem dL_sum_102 : decode cL_sum 102 = .ok (.lload_n 1, 1) := by decide +kernel
theorem dL_sum_103 : decode cL_sum 103 = .ok (.lmul, 1) := by decide +kernel
theorem dL_sum_104 : decode cL_sum 104 = .ok (.aload_n 0, 1) := by decide +kernel
theorem dL_sum_105 : decode cL_sum 105 = .ok (.iload_n 3, 1) := by decide +kernel
theorem dL_sum_106 : decode cL_sum 106 = .ok (.iload 4, 2) := by decide +kernel
theorem dL_sum_108 : decode cL_sum 108 = .ok (.invokestatic 189, 3) := by decide +kernel
theorem dL_sum_111 : decode cL_sum 111 = .ok (.i2l, 1) := by decide +kernel
theorem dL_sum_112 : decode cL_sum 112 = .ok (.ladd, 1) := by decide +kernel
theorem dL_sum_113 : decode cL_sum 113 = .ok (.lstore_n 1, 1) := by decide +kernel
theorem dL_sum_114 : decode cL_sum 114 = .ok (.iinc 4 1, 3) := by decide +kernel
theorem dL_sum_117 : decode cL_sum 117 = .ok (.goto (-24), 3) := by decide +kernel
theorem dL_sum_120 : decode cL_sum 120 = .ok (.iconst 0, 1) := by decide +kernel
theorem dL_sum_121 : decode cL_sum 121 = .ok (.istore 4, 2) := by decide +kernel
theorem dL_sum_123 : decode cL_sum 123 = .ok (.iload 4, 2) := by decide +kernel
theorem dL_sum_125 : decode cL_sum 125 = .ok (.aload_n 0, 1) := by decide +kernel
theorem dL_sum_126 : decode cL_sum 126 = .ok (.iload_n 3, 1) := by decide +kernel
theorem dL_sum_127 : decode cL_sum 127 = .ok (.iconst 3, 1) := by decide +kernel
theorem dL_sum_128 : decode cL_sum 128 = .ok (.invokestatic 189, 3) := by decide +kernel
theorem dL_sum_131 : decode cL_sum 131 = .ok (.if_icmp .ge 24, 3) := by decide +kernel
theorem dL_sum_134 : decode cL_sum 134 = .ok (.ldc2_w 266, 3) := by decide +kernel
theorem dL_sum_137 : decode cL_sum 137 = .ok (.lload_n 1, 1) := by decide +kernel
theorem dL_sum_138 : decode cL_sum 138 = .ok (.lmul, 1) := by decide +kernel
theorem dL_sum_139 : decode cL_sum 139 = .ok (.aload_n 0, 1) := by decide +kernel
theorem dL_sum_140 : decode cL_sum 140 = .ok (.iload_n 3, 1) := by decide +kernel
theorem dL_sum_141 : decode cL_sum 141 = .ok (.iload 4, 2) := by decide +kernel
theorem dL_sum_143 : decode cL_sum 143 = .ok (.invokestatic 205, 3) := by decide +kernel
theorem dL_sum_146 : decode cL_sum 146 = .ok (.i2l, 1) := by decide +kernel
theorem dL_sum_147 : decode cL_sum 147 = .ok (.ladd, 1) := by decide +kernel
theorem dL_sum_148 : decode cL_sum 148 = .ok (.lstore_n 1, 1) := by decide +kernel
theorem dL_sum_149 : decode cL_sum 149 = .ok (.iinc 4 1, 3) := by decide +kernel
theorem dL_sum_152 : decode cL_sum 152 = .ok (.goto (-29), 3) := by decide +kernel
theorem dL_sum_155 : decode cL_sum 155 = .ok (.iinc 3 1, 3) := by decide +kernel
theorem dL_sum_158 : decode cL_sum 158 = .ok (.goto (-77), 3) := by decide +kernel
theorem dL_sum_161 : decode cL_sum 161 = .ok (.iconst 0, 1) := by decide +kernel
theorem dL_sum_162 : decode cL_sum 162 = .ok (.istore_n 3, 1) := by decide +kernel
theorem dL_sum_163 : decode cL_sum 163 = .ok (.iload_n 3, 1) := by decide +kernel
theorem dL_sum_164 : decode cL_sum 164 = .ok (.aload_n 0, 1) := by decide +kernel
theorem dL_sum_165 : decode cL_sum 165 = .ok (.iconst 5, 1) := by decide +kernel
theorem dL_sum_166 : decode cL_sum 166 = .ok (.invokevirtual 184, 3) := by decide +kernel
theorem dL_sum_169 : decode cL_sum 169 = .ok (.if_icmp .ge 34, 3) := by decide +kernel
theorem dL_sum_172 : decode cL_sum 172 = .ok (.ldc2_w 268, 3) := by decide +kernel
theorem dL_sum_175 : decode cL_sum 175 = .ok (.lload_n 1, 1) := by decide +kernel
theorem dL_sum_176 : decode cL_sum 176 = .ok (.lmul, 1) := by decide +kernel
theorem dL_sum_177 : decode cL_sum 177 = .ok (.aload_n 0, 1) := by decide +kernel
theorem dL_sum_178 : decode cL_sum 178 = .ok (.iload_n 3, 1) := by decide +kernel
theorem dL_sum_179 : decode cL_sum 179 = .ok (.iconst 1, 1) := by decide +kernel
theorem dL_sum_180 : decode cL_sum 180 = .ok (.invokestatic 191, 3) := by decide +kernel
theorem dL_sum_183 : decode cL_sum 183 = .ok (.i2l, 1) := by decide +kernel
theorem dL_sum_184 : decode cL_sum 184 = .ok (.ladd, 1) := by decide +kernel
theorem dL_sum_185 : decode cL_sum 185 = .ok (.bipush 64, 2) := by decide +kernel
theorem dL_sum_187 : decode cL_sum 187 = .ok (.aload_n 0, 1) := by decide +kernel
theorem dL_sum_188 : decode cL_sum 188 = .ok (.iload_n 3, 1) := by decide +kernel
theorem dL_sum_189 : decode cL_sum 189 = .ok (.iconst 0, 1) := by decide +kernel
theorem dL_sum_190 : decode cL_sum 190 = .ok (.invokestatic 191, 3) := by decide +kernel
theorem dL_sum_193 : decode cL_sum 193 = .ok (.imul, 1) := by decide +kernel
theorem dL_sum_194 : decode cL_sum 194 = .ok (.i2l, 1) := by decide +kernel
theorem dL_sum_195 : decode cL_sum 195 = .ok (.ladd, 1) := by decide +kernel
theorem dL_sum_196 : decode cL_sum 196 = .ok (.lstore_n 1, 1) := by decide +kernel
theorem dL_sum_197 : decode cL_sum 197 = .ok (.iinc 3 1, 3) := by decide +kernel
theorem dL_sum_200 : decode cL_sum 200 = .ok (.goto (-37), 3) := by decide +kernel
theorem dL_sum_203 : decode cL_sum 203 = .ok (.lload_n 1, 1) := by decide +kernel
theorem dL_sum_204 : decode cL_sum 204 = .ok (.lreturn, 1) := by decide +kernel
theorem dL_undone_0 : decode cL_undone 0 = .ok (.bipush 9, 2) := by decide +kernel
theorem dL_undone_2 : decode cL_undone 2 = .ok (.newarray .long, 2) := by decide +kernel
theorem dL_undone_4 : decode cL_undone 4 = .ok (.astore_n 2, 1) := by decide +kernel
theorem dL_undone_5 : decode cL_undone 5 = .ok (.iconst 0, 1) := by decide +kernel
theorem dL_undone_6 : decode cL_undone 6 = .ok (.istore_n 3, 1) := by decide +kernel
theorem dL_undone_7 : decode cL_undone 7 = .ok (.iconst 0, 1) := by decide +kernel
theorem dL_undone_8 : decode cL_undone 8 = .ok (.istore 4, 2) := by decide +kernel
theorem dL_undone_10 : decode cL_undone 10 = .ok (.iload 4, 2) := by decide +kernel
theorem dL_undone_12 : decode cL_undone 12 = .ok (.bipush 7, 2) := by decide +kernel
theorem dL_undone_14 : decode cL_undone 14 = .ok (.if_icmp .ge 511, 3) := by decide +kernel
theorem dL_undone_17 : decode cL_undone 17 = .ok (.aload_n 0, 1) := by decide +kernel
theorem dL_undone_18 : decode cL_undone 18 = .ok (.bipush 60, 2) := by decide +kernel
theorem dL_undone_20 : decode cL_undone 20 = .ok (.iload 4, 2) := by decide +kernel
theorem dL_undone_22 : decode cL_undone 22 = .ok (.iadd, 1) := by decide +kernel
theorem dL_undone_23 : decode cL_undone 23 = .ok (.invokestatic 126, 3) := by decide +kernel
theorem dL_undone_26 : decode cL_undone 26 = .ok (.iconst 1, 1) := by decide +kernel
theorem dL_undone_27 : decode cL_undone 27 = .ok (.iushr, 1) := by decide +kernel
theorem dL_undone_28 : decode cL_undone 28 = .ok (.istore 5, 2) := by decide +kernel
theorem dL_undone_30 : decode cL_undone 30 = .ok (.aload_n 2, 1) := by decide +kernel
theorem dL_undone_31 : decode cL_undone 31 = .ok (.iload_n 3, 1) := by decide +kernel
theorem dL_undone_32 : decode cL_undone 32 = .ok (.aload_n 1, 1) := by decide +kernel
theorem dL_undone_33 : decode cL_undone 33 = .ok (.invokestatic 270, 3) := by decide +kernel
theorem dL_undone_36 : decode cL_undone 36 = .ok (.lastore, 1) := by decide +kernel
theorem dL_undone_37 : decode cL_undone 37 = .ok (.iload 5, 2) := by decide +kernel
theorem dL_undone_39 : decode cL_undone 39 = .ok (.bipush 15, 2) := by decide +kernel
theorem dL_undone_41 : decode cL_undone 41 = .ok (.irem, 1) := by decide +kernel
theorem dL_undone_42 : decode cL_undone 42 = .ok (.tableswitch 331 0 13 #[70, 85, 101, 110, 110, 134, 150, 173, 188, 204, 228, 252, 292, 315], 70) := by decide +kernel
theorem dL_undone_112 : decode cL_undone 112 = .ok (.aload_n 1, 1) := by decide +kernel
theorem dL_undone_113 : decode cL_undone 113 = .ok (.iload 5, 2) := by decide +kernel
theorem dL_undone_115 : decode cL_undone 115 = .ok (.iconst 4, 1) := by decide +kernel
theorem dL_undone_116 : decode cL_undone 116 = .ok (.iushr, 1) := by decide +kernel
theorem dL_undone_117 : decode cL_undone 117 = .ok (.iconst 5, 1) := by decide +kernel
theorem dL_undone_118 : decode cL_undone 118 = .ok (.irem, 1) := by decide +kernel
theorem dL_undone_119 : decode cL_undone 119 = .ok (.invokestatic 130, 3) := by decide +kernel
theorem dL_undone_122 : decode cL_undone 122 = .ok (.istore 6, 2) := by decide +kernel
theorem dL_undone_124 : decode cL_undone 124 = .ok (.goto 364, 3) := by decide +kernel
theorem dL_undone_127 : decode cL_undone 127 = .ok (.aload_n 1, 1) := by decide +kernel
theorem dL_undone_128 : decode cL_undone 128 = .ok (.iload 5, 2) := by decide +kernel
theorem dL_undone_130 : decode cL_undone 130 = .ok (.iconst 4, 1) := by decide +kernel
theorem dL_undone_131 : decode cL_undone 131 = .ok (.iushr, 1) := by decide +kernel
theorem dL_undone_132 : decode cL_undone 132 = .ok (.bipush 11, 2) := by decide +kernel
theorem dL_undone_134 : decode cL_undone 134 = .ok (.irem, 1) := by decide +kernel
theorem dL_undone_135 : decode cL_undone 135 = .ok (.invokestatic 133, 3) := by decide +kernel
theorem dL_undone_138 : decode cL_undone 138 = .ok (.istore 6, 2) := by decide +kernel
theorem dL_undone_140 : decode cL_undone 140 = .ok (.goto 348, 3) := by decide +kernel
theorem dL_undone_143 : decode cL_undone 143 = .ok (.aload_n 1, 1) := by decide +kernel
theorem dL_undone_144 : decode cL_undone 144 = .ok (.invokestatic 135, 3) := by decide +kernel
theorem dL_undone_147 : decode cL_undone 147 = .ok (.istore 6, 2) := by decide +kernel
theorem dL_undone_149 : decode cL_undone 149 = .ok (.goto 339, 3) := by decide +kernel
theorem dL_undone_152 : decode cL_undone 152 = .ok (.aload_n 1, 1) := by decide +kernel
theorem dL_undone_153 : decode cL_undone 153 = .ok (.iload 5, 2) := by decide +kernel
theorem dL_undone_155 : decode cL_undone 155 = .ok (.iconst 4, 1) := by decide +kernel
theorem dL_undone_156 : decode cL_undone 156 = .ok (.iushr, 1) := by decide +kernel
theorem dL_undone_157 : decode cL_undone 157 = .ok (.bipush 8, 2) := by decide +kernel
theorem dL_undone_159 : decode cL_undone 159 = .ok (.irem, 1) := by decide +kernel
theorem dL_undone_160 : decode cL_undone 160 = .ok (.iload 5, 2) := by decide +kernel
theorem dL_undone_162 : decode cL_undone 162 = .ok (.bipush 7, 2) := by decide +kernel
theorem dL_undone_164 : decode cL_undone 164 = .ok (.iushr, 1) := by decide +kernel
theorem dL_undone_165 : decode cL_undone 165 = .ok (.bipush 6, 2) := by decide +kernel
theorem dL_undone_167 : decode cL_undone 167 = .ok (.irem, 1) := by decide +kernel
theorem dL_undone_168 : decode cL_undone 168 = .ok (.invokestatic 137, 3) := by decide +kernel
theorem dL_undone_171 : decode cL_undone 171 = .ok (.istore 6, 2) := by decide +kernel
theorem dL_undone_173 : decode cL_undone 173 = .ok (.goto 315, 3) := by decide +kernel
theorem dL_undone_176 : decode cL_undone 176 = .ok (.aload_n 1, 1) := by decide +kernel
theorem dL_undone_177 : decode cL_undone 177 = .ok (.iload 5, 2) := by decide +kernel
theorem dL_undone_179 : decode cL_undone 179 = .ok (.iconst 4, 1) := by decide +kernel
theorem dL_undone_180 : decode cL_undone 180 = .ok (.iushr, 1) := by decide +kernel
theorem dL_undone_181 : decode cL_undone 181 = .ok (.bipush 8, 2) := by decide +kernel
theorem dL_undone_183 : decode cL_undone 183 = .ok (.irem, 1) := by decide +kernel
theorem dL_undone_184 : decode cL_undone 184 = .ok (.invokestatic 140, 3) := by decide +kernel
theorem dL_undone_187 : decode cL_undone 187 = .ok (.istore 6, 2) := by decide +kernel
theorem dL_undone_189 : decode cL_undone 189 = .ok (.goto 299, 3) := by decide +kernel
theorem dL_undone_192 : decode cL_undone 192 = .ok (.aload_n 1, 1) := by decide +kernel
theorem dL_undone_193 : decode cL_undone 193 = .ok (.iload 5, 2) := by decide +kernel
theorem dL_undone_195 : decode cL_undone 195 = .ok (.iconst 4, 1) := by decide +kernel
theorem dL_undone_196 : decode cL_undone 196 = .ok (.iushr, 1) := by decide +kernel
theorem dL_undone_197 : decode cL_undone 197 = .ok (.iconst 5, 1) := by decide +kernel
theorem dL_undone_198 : decode cL_undone 198 = .ok (.irem, 1) := by decide +kernel
theorem dL_undone_199 : decode cL_undone 199 = .ok (.iload 5, 2) := by decide +kernel
theorem dL_undone_201 : decode cL_undone 201 = .ok (.bipush 7, 2) := by decide +kernel
theorem dL_undone_203 : decode cL_undone 203 = .ok (.iushr, 1) := by decide +kernel
theorem dL_undone_204 : decode cL_undone 204 = .ok (.bipush 6, 2) := by decide +kernel
theorem dL_undone_206 : decode cL_undone 206 = .ok (.irem, 1) := by decide +kernel
theorem dL_undone_207 : decode cL_undone 207 = .ok (.invokestatic 142, 3) := by decide +kernel
theorem dL_undone_210 : decode cL_undone 210 = .ok (.istore 6, 2) := by decide +kernel
theorem dL_undone_212 : decode cL_undone 212 = .ok (.goto 276, 3) := by decide +kernel
theorem dL_undone_215 : decode cL_undone 215 = .ok (.aload_n 1, 1) := by decide +kernel
theorem dL_undone_216 : decode cL_undone 216 = .ok (.iload 5, 2) := by decide +kernel
theorem dL_undone_218 : decode cL_undone 218 = .ok (.iconst 4, 1) := by decide +kernel
theorem dL_undone_219 : decode cL_undone 219 = .ok (.iushr, 1) := by decide +kernel
theorem dL_undone_220 : decode cL_undone 220 = .ok (.iconst 5, 1) := by decide +kernel
theorem dL_undone_221 : decode cL_undone 221 = .ok (.irem, 1) := by decide +kernel
theorem dL_undone_222 : decode cL_undone 222 = .ok (.invokestatic 144, 3) := by decide +kernel
theorem dL_undone_225 : decode cL_undone 225 = .ok (.istore 6, 2) := by decide +kernel
theorem dL_undone_227 : decode cL_undone 227 = .ok (.goto 261, 3) := by decide +kernel
theorem dL_undone_230 : decode cL_undone 230 = .ok (.aload_n 1, 1) := by decide +kernel
theorem dL_undone_231 : decode cL_undone 231 = .ok (.iload 5, 2) := by decide +kernel
theorem dL_undone_233 : decode cL_undone 233 = .ok (.iconst 4, 1) := by decide +kernel
theorem dL_undone_234 : decode cL_undone 234 = .ok (.iushr, 1) := by decide +kernel
theorem dL_undone_235 : decode cL_undone 235 = .ok (.bipush 6, 2) := by decide +kernel
theorem dL_undone_237 : decode cL_undone 237 = .ok (.irem, 1) := by decide +kernel
theorem dL_undone_238 : decode cL_undone 238 = .ok (.invokestatic 148, 3) := by decide +kernel
theorem dL_undone_241 : decode cL_undone 241 = .ok (.istore 6, 2) := by decide +kernel
theorem dL_undone_243 : decode cL_undone 243 = .ok (.goto 245, 3) := by decide +kernel
theorem dL_undone_246 : decode cL_undone 246 = .ok (.aload_n 1, 1) := by decide +kernel
theorem dL_undone_247 : decode cL_undone 247 = .ok (.iload 5, 2) := by decide +kernel
theorem dL_undone_249 : decode cL_undone 249 = .ok (.iconst 4, 1) := by decide +kernel
theorem dL_undone_250 : decode cL_undone 250 = .ok (.iushr, 1) := by decide +kernel
theorem dL_undone_251 : decode cL_undone 251 = .ok (.bipush 8, 2) := by decide +kernel
theorem dL_undone_253 : decode cL_undone 253 = .ok (.irem, 1) := by decide +kernel
theorem dL_undone_254 : decode cL_undone 254 = .ok (.iload 5, 2) := by decide +kernel
theorem dL_undone_256 : decode cL_undone 256 = .ok (.bipush 7, 2) := by decide +kernel
theorem dL_undone_258 : decode cL_undone 258 = .ok (.iushr, 1) := by decide +kernel
theorem dL_undone_259 : decode cL_undone 259 = .ok (.bipush 9, 2) := by decide +kernel
theorem dL_undone_261 : decode cL_undone 261 = .ok (.irem, 1) := by decide +kernel
theorem dL_undone_262 : decode cL_undone 262 = .ok (.invokestatic 146, 3) := by decide +kernel
theorem dL_undone_265 : decode cL_undone 265 = .ok (.istore 6, 2) := by decide +kernel
theorem dL_undone_267 : decode cL_undone 267 = .ok (.goto 221, 3) := by decide +kernel
theorem dL_undone_270 : decode cL_undone 270 = .ok (.aload_n 1, 1) := by decide +kernel
theorem dL_undone_271 : decode cL_undone 271 = .ok (.iload 5, 2) := by decide +kernel
theorem dL_undone_273 : decode cL_undone 273 = .ok (.iconst 4, 1) := by decide +kernel
theorem dL_undone_274 : decode cL_undone 274 = .ok (.iushr, 1) := by decide +kernel
theorem dL_undone_275 : decode cL_undone 275 = .ok (.bipush 8, 2) := by decide +kernel
theorem dL_undone_277 : decode cL_undone 277 = .ok (.irem, 1) := by decide +kernel
theorem dL_undone_278 : decode cL_undone 278 = .ok (.iload 5, 2) := by decide +kernel
theorem dL_undone_280 : decode cL_undone 280 = .ok (.bipush 7, 2) := by decide +kernel
theorem dL_undone_282 : decode cL_undone 282 = .ok (.iushr, 1) := by decide +kernel
theorem dL_undone_283 : decode cL_undone 283 = .ok (.bipush 9, 2) := by decide +kernel
theorem dL_undone_285 : decode cL_undone 285 = .ok (.irem, 1) := by decide +kernel
theorem dL_undone_286 : decode cL_undone 286 = .ok (.invokestatic 150, 3) := by decide +kernel
theorem dL_undone_289 : decode cL_undone 289 = .ok (.istore 6, 2) := by decide +kernel
theorem dL_undone_291 : decode cL_undone 291 = .ok (.goto 197, 3) := by decide +kernel
theorem dL_undone_294 : decode cL_undone 294 = .ok (.iload 5, 2) := by decide +kernel
theorem dL_undone_296 : decode cL_undone 296 = .ok (.bipush 30, 2) := by decide +kernel
theorem dL_undone_298 : decode cL_undone 298 = .ok (.irem, 1) := by decide +kernel
theorem dL_undone_299 : decode cL_undone 299 = .ok (.bipush 15, 2) := by decide +kernel
theorem dL_undone_301 : decode cL_undone 301 = .ok (.if_icmp .ge 17, 3) := by decide +kernel
theorem dL_undone_304 : decode cL_undone 304 = .ok (.aload_n 1, 1) := by decide +kernel
theorem dL_undone_305 : decode cL_undone 305 = .ok (.iload 5, 2) := by decide +kernel
theorem dL_undone_307 : decode cL_undone 307 = .ok (.iconst 5, 1) := by decide +kernel
theorem dL_undone_308 : decode cL_undone 308 = .ok (.iushr, 1) := by decide +kernel
theorem dL_undone_309 : decode cL_undone 309 = .ok (.bipush 22, 2) := by decide +kernel
theorem dL_undone_311 : decode cL_undone 311 = .ok (.irem, 1) := by decide +kernel
theorem dL_undone_312 : decode cL_undone 312 = .ok (.invokestatic 152, 3) := by decide +kernel
theorem dL_undone_315 : decode cL_undone 315 = .ok (.goto 14, 3) := by decide +kernel
theorem dL_undone_318 : decode cL_undone 318 = .ok (.aload_n 1, 1) := by decide +kernel
theorem dL_undone_319 : decode cL_undone 319 = .ok (.iload 5, 2) := by decide +kernel
theorem dL_undone_321 : decode cL_undone 321 = .ok (.iconst 5, 1) := by decide +kernel
theorem dL_undone_322 : decode cL_undone 322 = .ok (.iushr, 1) := by decide +kernel
theorem dL_undone_323 : decode cL_undone 323 = .ok (.bipush 22, 2) := by decide +kernel
theorem dL_undone_325 : decode cL_undone 325 = .ok (.irem, 1) := by decide +kernel
theorem dL_undone_326 : decode cL_undone 326 = .ok (.invokestatic 154, 3) := by decide +kernel
theorem dL_undone_329 : decode cL_undone 329 = .ok (.istore 6, 2) := by decide +kernel
theorem dL_undone_331 : decode cL_undone 331 = .ok (.goto 157, 3) := by decide +kernel
theorem dL_undone_334 : decode cL_undone 334 = .ok (.aload_n 1, 1) := by decide +kernel
theorem dL_undone_335 : decode cL_undone 335 = .ok (.iload 5, 2) := by decide +kernel
theorem dL_undone_337 : decode cL_undone 337 = .ok (.iconst 4, 1) := by decide +kernel
theorem dL_undone_338 : decode cL_undone 338 = .ok (.iushr, 1) := by decide +kernel
theorem dL_undone_339 : decode cL_undone 339 = .ok (.iconst 5, 1) := by decide +kernel
theorem dL_undone_340 : decode cL_undone 340 = .ok (.irem, 1) := by decide +kernel
theorem dL_undone_341 : decode cL_undone 341 = .ok (.iload 5, 2) := by decide +kernel
theorem dL_undone_343 : decode cL_undone 343 = .ok (.bipush 7, 2) := by decide +kernel
theorem dL_undone_345 : decode cL_undone 345 = .ok (.iushr, 1) := by decide +kernel
theorem dL_undone_346 : decode cL_undone 346 = .ok (.bipush 14, 2) := by decide +kernel
theorem dL_undone_348 : decode cL_undone 348 = .ok (.irem, 1) := by decide +kernel
theorem dL_undone_349 : decode cL_undone 349 = .ok (.invokestatic 156, 3) := by decide +kernel
theorem dL_undone_352 : decode cL_undone 352 = .ok (.istore 6, 2) := by decide +kernel
theorem dL_undone_354 : decode cL_undone 354 = .ok (.goto 134, 3) := by decide +kernel
theorem dL_undone_357 : decode cL_undone 357 = .ok (.aload_n 1, 1) := by decide +kernel
theorem dL_undone_358 : decode cL_undone 358 = .ok (.iload 5, 2) := by decide +kernel
theorem dL_undone_360 : decode cL_undone 360 = .ok (.iconst 4, 1) := by decide +kernel
theorem dL_undone_361 : decode cL_undone 361 = .ok (.iushr, 1) := by decide +kernel
theorem dL_undone_362 : decode cL_undone 362 = .ok (.bipush 50, 2) := by decide +kernel
theorem dL_undone_364 : decode cL_undone 364 = .ok (.irem, 1) := by decide +kernel
theorem dL_undone_365 : decode cL_undone 365 = .ok (.invokestatic 158, 3) := by decide +kernel
theorem dL_undone_368 : decode cL_undone 368 = .ok (.istore 6, 2) := by decide +kernel
theorem dL_undone_370 : decode cL_undone 370 = .ok (.goto 118, 3) := by decide +kernel
theorem dL_undone_373 : decode cL_undone 373 = .ok (.aload_n 1, 1) := by decide +kernel
theorem dL_undone_374 : decode cL_undone 374 = .ok (.new 207, 3) := by decide +kernel
theorem dL_undone_377 : decode cL_undone 377 = .ok (.dup, 1) := by decide +kernel
theorem dL_undone_378 : decode cL_undone 378 = .ok (.invokespecial 209, 3) := by decide +kernel
theorem dL_undone_381 : decode cL_undone 381 = .ok (.ldc_w 274, 3) := by decide +kernel
theorem dL_undone_384 : decode cL_undone 384 = .ok (.invokevirtual 219, 3) := by decide +kernel
theorem dL_undone_387 : decode cL_undone 387 = .ok (.iconst 1, 1) := by decide +kernel
theorem dL_undone_388 : decode cL_undone 388 = .ok (.iload 5, 2) := by decide +kernel
theorem dL_undone_390 : decode cL_undone 390 = .ok (.iconst 4, 1) := by decide +kernel
theorem dL_undone_391 : decode cL_undone 391 = .ok (.iushr, 1) := by decide +kernel
theorem dL_undone_392 : decode cL_undone 392 = .ok (.bipush 9, 2) := by decide +kernel
theorem dL_undone_394 : decode cL_undone 394 = .ok (.irem, 1) := by decide +kernel
theorem dL_undone_395 : decode cL_undone 395 = .ok (.iadd, 1) := by decide +kernel
theorem dL_undone_396 : decode cL_undone 396 = .ok (.invokevirtual 210, 3) := by decide +kernel
theorem dL_undone_399 : decode cL_undone 399 = .ok (.ldc_w 276, 3) := by decide +kernel
theorem dL_undone_402 : decode cL_undone 402 = .ok (.invokevirtual 219, 3) := by decide +kernel
theorem dL_undone_405 : decode cL_undone 405 = .ok (.iload 5, 2) := by decide +kernel
theorem dL_undone_407 : decode cL_undone 407 = .ok (.bipush 8, 2) := by decide +kernel
theorem dL_undone_409 : decode cL_undone 409 = .ok (.iushr, 1) := by decide +kernel
theorem dL_undone_410 : decode cL_undone 410 = .ok (.iconst 4, 1) := by decide +kernel
theorem dL_undone_411 : decode cL_undone 411 = .ok (.irem, 1) := by decide +kernel
theorem dL_undone_412 : decode cL_undone 412 = .ok (.invokevirtual 210, 3) := by decide +kernel
theorem dL_undone_415 : decode cL_undone 415 = .ok (.iload 5, 2) := by decide +kernel
theorem dL_undone_417 : decode cL_undone 417 = .ok (.iconst 2, 1) := by decide +kernel
theorem dL_undone_418 : decode cL_undone 418 = .ok (.irem, 1) := by decide +kernel
theorem dL_undone_419 : decode cL_undone 419 = .ok (.ifCond .ne 32, 3) := by decide +kernel
theorem dL_undone_422 : decode cL_undone 422 = .ok (.new 207, 3) := by decide +kernel
theorem dL_undone_425 : decode cL_undone 425 = .ok (.dup, 1) := by decide +kernel
theorem dL_undone_426 : decode cL_undone 426 = .ok (.invokespecial 209, 3) := by decide +kernel
theorem dL_undone_429 : decode cL_undone 429 = .ok (.ldc_w 278, 3) := by decide +kernel
theorem dL_undone_432 : decode cL_undone 432 = .ok (.invokevirtual 219, 3) := by decide +kernel
theorem dL_undone_435 : decode cL_undone 435 = .ok (.iload 5, 2) := by decide +kernel
theorem dL_undone_437 : decode cL_undone 437 = .ok (.bipush 10, 2) := by decide +kernel
theorem dL_undone_439 : decode cL_undone 439 = .ok (.iushr, 1) := by decide +kernel
theorem dL_undone_440 : decode cL_undone 440 = .ok (.iconst 4, 1) := by decide +kernel
theorem dL_undone_441 : decode cL_undone 441 = .ok (.irem, 1) := by decide +kernel
theorem dL_undone_442 : decode cL_undone 442 = .ok (.invokevirtual 210, 3) := by decide +kernel
theorem dL_undone_445 : decode cL_undone 445 = .ok (.invokevirtual 230, 3) := by decide +kernel
theorem dL_undone_448 : decode cL_undone 448 = .ok (.goto 29, 3) := by decide +kernel
theorem dL_undone_451 : decode cL_undone 451 = .ok (.new 207, 3) := by decide +kernel
theorem dL_undone_454 : decode cL_undone 454 = .ok (.dup, 1) := by decide +kernel
theorem dL_undone_455 : decode cL_undone 455 = .ok (.invokespecial 209, 3) := by decide +kernel
theorem dL_undone_458 : decode cL_undone 458 = .ok (.ldc_w 280, 3) := by decide +kernel
theorem dL_undone_461 : decode cL_undone 461 = .ok (.invokevirtual 219, 3) := by decide +kernel
theorem dL_undone_464 : decode cL_undone 464 = .ok (.iload 5, 2) := by decide +kernel
theorem dL_undone_466 : decode cL_undone 466 = .ok (.bipush 10, 2) := by decide +kernel
theorem dL_undone_468 : decode cL_undone 468 = .ok (.iushr, 1) := by decide +kernel
theorem dL_undone_469 : decode cL_undone 469 = .ok (.iconst 3, 1) := by decide +kernel
theorem dL_undone_470 : decode cL_undone 470 = .ok (.irem, 1) := by decide +kernel
theorem dL_undone_471 : decode cL_undone 471 = .ok (.invokevirtual 210, 3) := by decide +kernel
theorem dL_undone_474 : decode cL_undone 474 = .ok (.invokevirtual 230, 3) := by decide +kernel
theorem dL_undone_477 : decode cL_undone 477 = .ok (.invokevirtual 219, 3) := by decide +kernel
theorem dL_undone_480 : decode cL_undone 480 = .ok (.invokevirtual 230, 3) := by decide +kernel
theorem dL_undone_483 : decode cL_undone 483 = .ok (.invokestatic 282, 3) := by decide +kernel
theorem dL_undone_486 : decode cL_undone 486 = .ok (.istore 6, 2) := by decide +kernel
theorem dL_undone_488 : decode cL_undone 488 = .ok (.iload 6, 2) := by decide +kernel
theorem dL_undone_490 : decode cL_undone 490 = .ok (.ifCond .ge 16, 3) := by decide +kernel
theorem dL_undone_493 : decode cL_undone 493 = .ok (.aload_n 1, 1) := by decide +kernel
theorem dL_undone_494 : decode cL_undone 494 = .ok (.invokestatic 270, 3) := by decide +kernel
theorem dL_undone_497 : decode cL_undone 497 = .ok (.aload_n 2, 1) := by decide +kernel
theorem dL_undone_498 : decode cL_undone 498 = .ok (.iload_n 3, 1) := by decide +kernel
theorem dL_undone_499 : decode cL_undone 499 = .ok (.laload, 1) := by decide +kernel
theorem dL_undone_500 : decode cL_undone 500 = .ok (.lcmp, 1) := by decide +kernel
theorem dL_undone_501 : decode cL_undone 501 = .ok (.ifCond .eq 5, 3) := by decide +kernel
theorem dL_undone_504 : decode cL_undone 504 = .ok (.iconst 0, 1) := by decide +kernel
theorem dL_undone_505 : decode cL_undone 505 = .ok (.ireturn, 1) := by decide +kernel
theorem dL_undone_506 : decode cL_undone 506 = .ok (.iload_n 3, 1) := by decide +kernel
theorem dL_undone_507 : decode cL_undone 507 = .ok (.iload 6, 2) := by decide +kernel
theorem dL_undone_509 : decode cL_undone 509 = .ok (.ifCond .ge 7, 3) := by decide +kernel
theorem dL_undone_512 : decode cL_undone 512 = .ok (.iconst 0, 1) := by decide +kernel
theorem dL_undone_513 : decode cL_undone 513 = .ok (.goto 4, 3) := by decide +kernel
theorem dL_undone_516 : decode cL_undone 516 = .ok (.iconst 1, 1) := by decide +kernel
theorem dL_undone_517 : decode cL_undone 517 = .ok (.iadd, 1) := by decide +kernel
theorem dL_undone_518 : decode cL_undone 518 = .ok (.istore_n 3, 1) := by decide +kernel
theorem dL_undone_519 : decode cL_undone 519 = .ok (.iinc 4 1, 3) := by decide +kernel
theorem dL_undone_522 : decode cL_undone 522 = .ok (.goto (-512), 3) := by decide +kernel
theorem dL_undone_525 : decode cL_undone 525 = .ok (.iload_n 3, 1) := by decide +kernel
theorem dL_undone_526 : decode cL_undone 526 = .ok (.iconst 1, 1) := by decide +kernel
theorem dL_undone_527 : decode cL_undone 527 = .ok (.isub, 1) := by decide +kernel
theorem dL_undone_528 : decode cL_undone 528 = .ok (.istore 4, 2) := by decide +kernel
theorem dL_undone_530 : decode cL_undone 530 = .ok (.iload 4, 2) := by decide +kernel
theorem dL_undone_532 : decode cL_undone 532 = .ok (.ifCond .lt 30, 3) := by decide +kernel
theorem dL_undone_535 : decode cL_undone 535 = .ok (.aload_n 1, 1) := by decide +kernel
theorem dL_undone_536 : decode cL_undone 536 = .ok (.invokestatic 256, 3) := by decide +kernel
theorem dL_undone_539 : decode cL_undone 539 = .ok (.ifCond .lt 15, 3) := by decide +kernel
theorem dL_undone_542 : decode cL_undone 542 = .ok (.aload_n 1, 1) := by decide +kernel
theorem dL_undone_543 : decode cL_undone 543 = .ok (.invokestatic 270, 3) := by decide +kernel
theorem dL_undone_546 : decode cL_undone 546 = .ok (.aload_n 2, 1) := by decide +kernel
theorem dL_undone_547 : decode cL_undone 547 = .ok (.iload 4, 2) := by decide +kernel
theorem dL_undone_549 : decode cL_undone 549 = .ok (.laload, 1) := by decide +kernel
theorem dL_undone_550 : decode cL_undone 550 = .ok (.lcmp, 1) := by decide +kernel
theorem dL_undone_551 : decode cL_undone 551 = .ok (.ifCond .eq 5, 3) := by decide +kernel
theorem dL_undone_554 : decode cL_undone 554 = .ok (.iconst 0, 1) := by decide +kernel
theorem dL_undone_555 : decode cL_undone 555 = .ok (.ireturn, 1) := by decide +kernel
theorem dL_undone_556 : decode cL_undone 556 = .ok (.iinc 4 (-1), 3) := by decide +kernel
theorem dL_undone_559 : decode cL_undone 559 = .ok (.goto (-29), 3) := by decide +kernel
theorem dL_undone_562 : decode cL_undone 562 = .ok (.iconst 1, 1) := by decide +kernel
theorem dL_undone_563 : decode cL_undone 563 = .ok (.ireturn, 1) := by decide +kernel
