/-! THE LAW: its rows (printed by wip/p44/law1.py) -/
theorem dL_law_0 : decode code 0 = .ok (.new 18, 3) := by decide +kernel
theorem dL_law_3 : decode code 3 = .ok (.dup, 1) := by decide +kernel
theorem dL_law_4 : decode code 4 = .ok (.invokespecial 66, 3) := by decide +kernel
theorem dL_law_7 : decode code 7 = .ok (.astore_n 1, 1) := by decide +kernel
theorem dL_law_8 : decode code 8 = .ok (.aload_n 0, 1) := by decide +kernel
theorem dL_law_9 : decode code 9 = .ok (.iconst 0, 1) := by decide +kernel
theorem dL_law_10 : decode code 10 = .ok (.invokestatic 67, 3) := by decide +kernel
theorem dL_law_13 : decode code 13 = .ok (.istore_n 2, 1) := by decide +kernel
theorem dL_law_14 : decode code 14 = .ok (.new 73, 3) := by decide +kernel
theorem dL_law_17 : decode code 17 = .ok (.dup, 1) := by decide +kernel
theorem dL_law_18 : decode code 18 = .ok (.invokespecial 75, 3) := by decide +kernel
theorem dL_law_21 : decode code 21 = .ok (.astore_n 3, 1) := by decide +kernel
theorem dL_law_22 : decode code 22 = .ok (.iconst 0, 1) := by decide +kernel
theorem dL_law_23 : decode code 23 = .ok (.istore 4, 2) := by decide +kernel
theorem dL_law_25 : decode code 25 = .ok (.iload 4, 2) := by decide +kernel
theorem dL_law_27 : decode code 27 = .ok (.iconst 4, 1) := by decide +kernel
theorem dL_law_28 : decode code 28 = .ok (.if_icmp .ge 65, 3) := by decide +kernel
theorem dL_law_31 : decode code 31 = .ok (.aload_n 3, 1) := by decide +kernel
theorem dL_law_32 : decode code 32 = .ok (.bipush 103, 2) := by decide +kernel
theorem dL_law_34 : decode code 34 = .ok (.invokevirtual 76, 3) := by decide +kernel
theorem dL_law_37 : decode code 37 = .ok (.iload 4, 2) := by decide +kernel
theorem dL_law_39 : decode code 39 = .ok (.invokevirtual 80, 3) := by decide +kernel
theorem dL_law_42 : decode code 42 = .ok (.bipush 119, 2) := by decide +kernel
theorem dL_law_44 : decode code 44 = .ok (.invokevirtual 76, 3) := by decide +kernel
theorem dL_law_47 : decode code 47 = .ok (.bipush 10, 2) := by decide +kernel
theorem dL_law_49 : decode code 49 = .ok (.iload_n 2, 1) := by decide +kernel
theorem dL_law_50 : decode code 50 = .ok (.iconst 3, 1) := by decide +kernel
theorem dL_law_51 : decode code 51 = .ok (.iload 4, 2) := by decide +kernel
theorem dL_law_53 : decode code 53 = .ok (.imul, 1) := by decide +kernel
theorem dL_law_54 : decode code 54 = .ok (.iushr, 1) := by decide +kernel
theorem dL_law_55 : decode code 55 = .ok (.bipush 63, 2) := by decide +kernel
theorem dL_law_57 : decode code 57 = .ok (.iand, 1) := by decide +kernel
theorem dL_law_58 : decode code 58 = .ok (.iadd, 1) := by decide +kernel
theorem dL_law_59 : decode code 59 = .ok (.invokevirtual 80, 3) := by decide +kernel
theorem dL_law_62 : decode code 62 = .ok (.bipush 107, 2) := by decide +kernel
theorem dL_law_64 : decode code 64 = .ok (.invokevirtual 76, 3) := by decide +kernel
theorem dL_law_67 : decode code 67 = .ok (.iload_n 2, 1) := by decide +kernel
theorem dL_law_68 : decode code 68 = .ok (.iconst 2, 1) := by decide +kernel
theorem dL_law_69 : decode code 69 = .ok (.iload 4, 2) := by decide +kernel
theorem dL_law_71 : decode code 71 = .ok (.imul, 1) := by decide +kernel
theorem dL_law_72 : decode code 72 = .ok (.iconst 5, 1) := by decide +kernel
theorem dL_law_73 : decode code 73 = .ok (.iadd, 1) := by decide +kernel
theorem dL_law_74 : decode code 74 = .ok (.iushr, 1) := by decide +kernel
theorem dL_law_75 : decode code 75 = .ok (.bipush 15, 2) := by decide +kernel
theorem dL_law_77 : decode code 77 = .ok (.iand, 1) := by decide +kernel
theorem dL_law_78 : decode code 78 = .ok (.invokevirtual 80, 3) := by decide +kernel
theorem dL_law_81 : decode code 81 = .ok (.bipush 59, 2) := by decide +kernel
theorem dL_law_83 : decode code 83 = .ok (.invokevirtual 76, 3) := by decide +kernel
theorem dL_law_86 : decode code 86 = .ok (.pop, 1) := by decide +kernel
theorem dL_law_87 : decode code 87 = .ok (.iinc 4 1, 3) := by decide +kernel
theorem dL_law_90 : decode code 90 = .ok (.goto (-65), 3) := by decide +kernel
theorem dL_law_93 : decode code 93 = .ok (.iconst 0, 1) := by decide +kernel
theorem dL_law_94 : decode code 94 = .ok (.istore 4, 2) := by decide +kernel
theorem dL_law_96 : decode code 96 = .ok (.iload 4, 2) := by decide +kernel
theorem dL_law_98 : decode code 98 = .ok (.bipush 6, 2) := by decide +kernel
theorem dL_law_100 : decode code 100 = .ok (.if_icmp .ge 46, 3) := by decide +kernel
theorem dL_law_103 : decode code 103 = .ok (.aload_n 3, 1) := by decide +kernel
theorem dL_law_104 : decode code 104 = .ok (.bipush 98, 2) := by decide +kernel
theorem dL_law_106 : decode code 106 = .ok (.invokevirtual 76, 3) := by decide +kernel
theorem dL_law_109 : decode code 109 = .ok (.iload 4, 2) := by decide +kernel
theorem dL_law_111 : decode code 111 = .ok (.invokevirtual 80, 3) := by decide +kernel
theorem dL_law_114 : decode code 114 = .ok (.bipush 99, 2) := by decide +kernel
theorem dL_law_116 : decode code 116 = .ok (.invokevirtual 76, 3) := by decide +kernel
theorem dL_law_119 : decode code 119 = .ok (.bipush 8, 2) := by decide +kernel
theorem dL_law_121 : decode code 121 = .ok (.iload_n 2, 1) := by decide +kernel
theorem dL_law_122 : decode code 122 = .ok (.iconst 2, 1) := by decide +kernel
theorem dL_law_123 : decode code 123 = .ok (.iload 4, 2) := by decide +kernel
theorem dL_law_125 : decode code 125 = .ok (.imul, 1) := by decide +kernel
theorem dL_law_126 : decode code 126 = .ok (.iushr, 1) := by decide +kernel
theorem dL_law_127 : decode code 127 = .ok (.bipush 31, 2) := by decide +kernel
theorem dL_law_129 : decode code 129 = .ok (.iand, 1) := by decide +kernel
theorem dL_law_130 : decode code 130 = .ok (.iadd, 1) := by decide +kernel
theorem dL_law_131 : decode code 131 = .ok (.invokevirtual 80, 3) := by decide +kernel
theorem dL_law_134 : decode code 134 = .ok (.bipush 59, 2) := by decide +kernel
theorem dL_law_136 : decode code 136 = .ok (.invokevirtual 76, 3) := by decide +kernel
theorem dL_law_139 : decode code 139 = .ok (.pop, 1) := by decide +kernel
theorem dL_law_140 : decode code 140 = .ok (.iinc 4 1, 3) := by decide +kernel
theorem dL_law_143 : decode code 143 = .ok (.goto (-47), 3) := by decide +kernel
theorem dL_law_146 : decode code 146 = .ok (.aload_n 3, 1) := by decide +kernel
theorem dL_law_147 : decode code 147 = .ok (.ldc 83, 2) := by decide +kernel
theorem dL_law_149 : decode code 149 = .ok (.invokevirtual 85, 3) := by decide +kernel
theorem dL_law_152 : decode code 152 = .ok (.iconst 1, 1) := by decide +kernel
theorem dL_law_153 : decode code 153 = .ok (.iload_n 2, 1) := by decide +kernel
theorem dL_law_154 : decode code 154 = .ok (.bipush 12, 2) := by decide +kernel
theorem dL_law_156 : decode code 156 = .ok (.iushr, 1) := by decide +kernel
theorem dL_law_157 : decode code 157 = .ok (.bipush 7, 2) := by decide +kernel
theorem dL_law_159 : decode code 159 = .ok (.iand, 1) := by decide +kernel
theorem dL_law_160 : decode code 160 = .ok (.iadd, 1) := by decide +kernel
theorem dL_law_161 : decode code 161 = .ok (.invokevirtual 80, 3) := by decide +kernel
theorem dL_law_164 : decode code 164 = .ok (.ldc 88, 2) := by decide +kernel
theorem dL_law_166 : decode code 166 = .ok (.invokevirtual 85, 3) := by decide +kernel
theorem dL_law_169 : decode code 169 = .ok (.iconst 1, 1) := by decide +kernel
theorem dL_law_170 : decode code 170 = .ok (.iload_n 2, 1) := by decide +kernel
theorem dL_law_171 : decode code 171 = .ok (.bipush 15, 2) := by decide +kernel
theorem dL_law_173 : decode code 173 = .ok (.iushr, 1) := by decide +kernel
theorem dL_law_174 : decode code 174 = .ok (.bipush 15, 2) := by decide +kernel
theorem dL_law_176 : decode code 176 = .ok (.iand, 1) := by decide +kernel
theorem dL_law_177 : decode code 177 = .ok (.iadd, 1) := by decide +kernel
theorem dL_law_178 : decode code 178 = .ok (.invokevirtual 80, 3) := by decide +kernel
theorem dL_law_181 : decode code 181 = .ok (.iload_n 2, 1) := by decide +kernel
theorem dL_law_182 : decode code 182 = .ok (.bipush 20, 2) := by decide +kernel
theorem dL_law_184 : decode code 184 = .ok (.iushr, 1) := by decide +kernel
theorem dL_law_185 : decode code 185 = .ok (.iconst 1, 1) := by decide +kernel
theorem dL_law_186 : decode code 186 = .ok (.iand, 1) := by decide +kernel
theorem dL_law_187 : decode code 187 = .ok (.iconst 1, 1) := by decide +kernel
theorem dL_law_188 : decode code 188 = .ok (.if_icmp .ne 8, 3) := by decide +kernel
theorem dL_law_191 : decode code 191 = .ok (.ldc 90, 2) := by decide +kernel
theorem dL_law_193 : decode code 193 = .ok (.goto 5, 3) := by decide +kernel
theorem dL_law_196 : decode code 196 = .ok (.ldc 92, 2) := by decide +kernel
theorem dL_law_198 : decode code 198 = .ok (.invokevirtual 85, 3) := by decide +kernel
theorem dL_law_201 : decode code 201 = .ok (.pop, 1) := by decide +kernel
theorem dL_law_202 : decode code 202 = .ok (.aload_n 1, 1) := by decide +kernel
theorem dL_law_203 : decode code 203 = .ok (.aload_n 3, 1) := by decide +kernel
theorem dL_law_204 : decode code 204 = .ok (.invokevirtual 94, 3) := by decide +kernel
theorem dL_law_207 : decode code 207 = .ok (.invokestatic 98, 3) := by decide +kernel
theorem dL_law_210 : decode code 210 = .ok (.aload_n 1, 1) := by decide +kernel
theorem dL_law_211 : decode code 211 = .ok (.invokevirtual 102, 3) := by decide +kernel
theorem dL_law_214 : decode code 214 = .ok (.bipush 13, 2) := by decide +kernel
theorem dL_law_216 : decode code 216 = .ok (.if_icmp .ne 10, 3) := by decide +kernel
theorem dL_law_219 : decode code 219 = .ok (.aload_n 1, 1) := by decide +kernel
theorem dL_law_220 : decode code 220 = .ok (.invokestatic 105, 3) := by decide +kernel
theorem dL_law_223 : decode code 223 = .ok (.ifCond .ne 5, 3) := by decide +kernel
theorem dL_law_226 : decode code 226 = .ok (.iconst 0, 1) := by decide +kernel
theorem dL_law_227 : decode code 227 = .ok (.ireturn, 1) := by decide +kernel
theorem dL_law_228 : decode code 228 = .ok (.iconst 1, 1) := by decide +kernel
theorem dL_law_229 : decode code 229 = .ok (.istore 4, 2) := by decide +kernel
theorem dL_law_231 : decode code 231 = .ok (.iload 4, 2) := by decide +kernel
theorem dL_law_233 : decode code 233 = .ok (.bipush 20, 2) := by decide +kernel
theorem dL_law_235 : decode code 235 = .ok (.if_icmp .ge 1107, 3) := by decide +kernel
theorem dL_law_238 : decode code 238 = .ok (.aload_n 0, 1) := by decide +kernel
theorem dL_law_239 : decode code 239 = .ok (.iload 4, 2) := by decide +kernel
theorem dL_law_241 : decode code 241 = .ok (.invokestatic 67, 3) := by decide +kernel
theorem dL_law_244 : decode code 244 = .ok (.istore 5, 2) := by decide +kernel
theorem dL_law_246 : decode code 246 = .ok (.iload 5, 2) := by decide +kernel
theorem dL_law_248 : decode code 248 = .ok (.iconst 3, 1) := by decide +kernel
theorem dL_law_249 : decode code 249 = .ok (.iushr, 1) := by decide +kernel
theorem dL_law_250 : decode code 250 = .ok (.iconst 3, 1) := by decide +kernel
theorem dL_law_251 : decode code 251 = .ok (.iand, 1) := by decide +kernel
theorem dL_law_252 : decode code 252 = .ok (.istore 6, 2) := by decide +kernel
theorem dL_law_254 : decode code 254 = .ok (.iload 5, 2) := by decide +kernel
theorem dL_law_256 : decode code 256 = .ok (.iconst 5, 1) := by decide +kernel
theorem dL_law_257 : decode code 257 = .ok (.iushr, 1) := by decide +kernel
theorem dL_law_258 : decode code 258 = .ok (.bipush 7, 2) := by decide +kernel
theorem dL_law_260 : decode code 260 = .ok (.iand, 1) := by decide +kernel
theorem dL_law_261 : decode code 261 = .ok (.bipush 6, 2) := by decide +kernel
theorem dL_law_263 : decode code 263 = .ok (.irem, 1) := by decide +kernel
theorem dL_law_264 : decode code 264 = .ok (.istore 7, 2) := by decide +kernel
theorem dL_law_266 : decode code 266 = .ok (.iconst 1, 1) := by decide +kernel
theorem dL_law_267 : decode code 267 = .ok (.iload 5, 2) := by decide +kernel
theorem dL_law_269 : decode code 269 = .ok (.bipush 8, 2) := by decide +kernel
theorem dL_law_271 : decode code 271 = .ok (.iushr, 1) := by decide +kernel
theorem dL_law_272 : decode code 272 = .ok (.bipush 15, 2) := by decide +kernel
theorem dL_law_274 : decode code 274 = .ok (.iand, 1) := by decide +kernel
theorem dL_law_275 : decode code 275 = .ok (.iadd, 1) := by decide +kernel
theorem dL_law_276 : decode code 276 = .ok (.istore 8, 2) := by decide +kernel
theorem dL_law_278 : decode code 278 = .ok (.iload 5, 2) := by decide +kernel
theorem dL_law_280 : decode code 280 = .ok (.bipush 12, 2) := by decide +kernel
theorem dL_law_282 : decode code 282 = .ok (.iushr, 1) := by decide +kernel
theorem dL_law_283 : decode code 283 = .ok (.bipush 7, 2) := by decide +kernel
theorem dL_law_285 : decode code 285 = .ok (.iand, 1) := by decide +kernel
theorem dL_law_286 : decode code 286 = .ok (.bipush 6, 2) := by decide +kernel
theorem dL_law_288 : decode code 288 = .ok (.irem, 1) := by decide +kernel
theorem dL_law_289 : decode code 289 = .ok (.istore 9, 2) := by decide +kernel
theorem dL_law_291 : decode code 291 = .ok (.aload_n 1, 1) := by decide +kernel
theorem dL_law_292 : decode code 292 = .ok (.iconst 5, 1) := by decide +kernel
theorem dL_law_293 : decode code 293 = .ok (.invokevirtual 60, 3) := by decide +kernel
theorem dL_law_296 : decode code 296 = .ok (.istore 10, 2) := by decide +kernel
theorem dL_law_298 : decode code 298 = .ok (.aload_n 1, 1) := by decide +kernel
theorem dL_law_299 : decode code 299 = .ok (.invokevirtual 57, 3) := by decide +kernel
theorem dL_law_302 : decode code 302 = .ok (.istore 11, 2) := by decide +kernel
theorem dL_law_304 : decode code 304 = .ok (.aload_n 1, 1) := by decide +kernel
theorem dL_law_305 : decode code 305 = .ok (.iconst 1, 1) := by decide +kernel
theorem dL_law_306 : decode code 306 = .ok (.invokevirtual 60, 3) := by decide +kernel
theorem dL_law_309 : decode code 309 = .ok (.istore 12, 2) := by decide +kernel
theorem dL_law_311 : decode code 311 = .ok (.iconst 0, 1) := by decide +kernel
theorem dL_law_312 : decode code 312 = .ok (.istore 13, 2) := by decide +kernel
theorem dL_law_314 : decode code 314 = .ok (.iload 5, 2) := by decide +kernel
theorem dL_law_316 : decode code 316 = .ok (.bipush 7, 2) := by decide +kernel
theorem dL_law_318 : decode code 318 = .ok (.iand, 1) := by decide +kernel
theorem dL_law_319 : decode code 319 = .ok (.tableswitch 808 0 6 #[41, 41, 41, 135, 284, 432, 606], 41) := by decide +kernel
theorem dL_law_360 : decode code 360 = .ok (.aload_n 1, 1) := by decide +kernel
theorem dL_law_361 : decode code 361 = .ok (.iload 6, 2) := by decide +kernel
theorem dL_law_363 : decode code 363 = .ok (.iload 8, 2) := by decide +kernel
theorem dL_law_365 : decode code 365 = .ok (.iload 7, 2) := by decide +kernel
theorem dL_law_367 : decode code 367 = .ok (.invokevirtual 109, 3) := by decide +kernel
theorem dL_law_370 : decode code 370 = .ok (.istore 14, 2) := by decide +kernel
theorem dL_law_372 : decode code 372 = .ok (.aload_n 1, 1) := by decide +kernel
theorem dL_law_373 : decode code 373 = .ok (.iload 7, 2) := by decide +kernel
theorem dL_law_375 : decode code 375 = .ok (.iconst 1, 1) := by decide +kernel
theorem dL_law_376 : decode code 376 = .ok (.invokevirtual 27, 3) := by decide +kernel
theorem dL_law_379 : decode code 379 = .ok (.istore 15, 2) := by decide +kernel
theorem dL_law_381 : decode code 381 = .ok (.aload_n 1, 1) := by decide +kernel
theorem dL_law_382 : decode code 382 = .ok (.iload 6, 2) := by decide +kernel
theorem dL_law_384 : decode code 384 = .ok (.iload 8, 2) := by decide +kernel
theorem dL_law_386 : decode code 386 = .ok (.iload 7, 2) := by decide +kernel
theorem dL_law_388 : decode code 388 = .ok (.invokevirtual 112, 3) := by decide +kernel
theorem dL_law_391 : decode code 391 = .ok (.istore 16, 2) := by decide +kernel
theorem dL_law_393 : decode code 393 = .ok (.iload 16, 2) := by decide +kernel
theorem dL_law_395 : decode code 395 = .ok (.ifCond .lt 7, 3) := by decide +kernel
theorem dL_law_398 : decode code 398 = .ok (.iconst 1, 1) := by decide +kernel
theorem dL_law_399 : decode code 399 = .ok (.goto 4, 3) := by decide +kernel
theorem dL_law_402 : decode code 402 = .ok (.iconst 0, 1) := by decide +kernel
theorem dL_law_403 : decode code 403 = .ok (.istore 13, 2) := by decide +kernel
theorem dL_law_405 : decode code 405 = .ok (.iload 16, 2) := by decide +kernel
theorem dL_law_407 : decode code 407 = .ok (.ifCond .lt 35, 3) := by decide +kernel
theorem dL_law_410 : decode code 410 = .ok (.iload 14, 2) := by decide +kernel
theorem dL_law_412 : decode code 412 = .ok (.ldc 115, 2) := by decide +kernel
theorem dL_law_414 : decode code 414 = .ok (.if_icmp .le 38, 3) := by decide +kernel
theorem dL_law_417 : decode code 417 = .ok (.iload 16, 2) := by decide +kernel
theorem dL_law_419 : decode code 419 = .ok (.iload 15, 2) := by decide +kernel
theorem dL_law_421 : decode code 421 = .ok (.iload 8, 2) := by decide +kernel
theorem dL_law_423 : decode code 423 = .ok (.iadd, 1) := by decide +kernel
theorem dL_law_424 : decode code 424 = .ok (.if_icmp .ne 28, 3) := by decide +kernel
theorem dL_law_427 : decode code 427 = .ok (.aload_n 1, 1) := by decide +kernel
theorem dL_law_428 : decode code 428 = .ok (.invokevirtual 57, 3) := by decide +kernel
theorem dL_law_431 : decode code 431 = .ok (.iload 11, 2) := by decide +kernel
theorem dL_law_433 : decode code 433 = .ok (.iload 14, 2) := by decide +kernel
theorem dL_law_435 : decode code 435 = .ok (.iadd, 1) := by decide +kernel
theorem dL_law_436 : decode code 436 = .ok (.if_icmp .eq 754, 3) := by decide +kernel
theorem dL_law_439 : decode code 439 = .ok (.goto 13, 3) := by decide +kernel
theorem dL_law_442 : decode code 442 = .ok (.iload 14, 2) := by decide +kernel
theorem dL_law_444 : decode code 444 = .ok (.iload 16, 2) := by decide +kernel
theorem dL_law_446 : decode code 446 = .ok (.ldc 116, 2) := by decide +kernel
theorem dL_law_448 : decode code 448 = .ok (.isub, 1) := by decide +kernel
theorem dL_law_449 : decode code 449 = .ok (.if_icmp .eq 741, 3) := by decide +kernel
theorem dL_law_452 : decode code 452 = .ok (.iconst 0, 1) := by decide +kernel
theorem dL_law_453 : decode code 453 = .ok (.ireturn, 1) := by decide +kernel
theorem dL_law_454 : decode code 454 = .ok (.aload_n 1, 1) := by decide +kernel
theorem dL_law_455 : decode code 455 = .ok (.iload 7, 2) := by decide +kernel
theorem dL_law_457 : decode code 457 = .ok (.iconst 1, 1) := by decide +kernel
theorem dL_law_458 : decode code 458 = .ok (.invokevirtual 27, 3) := by decide +kernel
theorem dL_law_461 : decode code 461 = .ok (.istore 14, 2) := by decide +kernel
theorem dL_law_463 : decode code 463 = .ok (.aload_n 1, 1) := by decide +kernel
theorem dL_law_464 : decode code 464 = .ok (.iload 7, 2) := by decide +kernel
theorem dL_law_466 : decode code 466 = .ok (.iconst 3, 1) := by decide +kernel
theorem dL_law_467 : decode code 467 = .ok (.invokevirtual 27, 3) := by decide +kernel
theorem dL_law_470 : decode code 470 = .ok (.istore 15, 2) := by decide +kernel
theorem dL_law_472 : decode code 472 = .ok (.aload_n 1, 1) := by decide +kernel
theorem dL_law_473 : decode code 473 = .ok (.iload 7, 2) := by decide +kernel
theorem dL_law_475 : decode code 475 = .ok (.iload 8, 2) := by decide +kernel
theorem dL_law_477 : decode code 477 = .ok (.invokevirtual 117, 3) := by decide +kernel
theorem dL_law_480 : decode code 480 = .ok (.istore 16, 2) := by decide +kernel
theorem dL_law_482 : decode code 482 = .ok (.iload 16, 2) := by decide +kernel
theorem dL_law_484 : decode code 484 = .ok (.ifCond .lt 7, 3) := by decide +kernel
theorem dL_law_487 : decode code 487 = .ok (.iconst 1, 1) := by decide +kernel
theorem dL_law_488 : decode code 488 = .ok (.goto 4, 3) := by decide +kernel
theorem dL_law_491 : decode code 491 = .ok (.iconst 0, 1) := by decide +kernel
theorem dL_law_492 : decode code 492 = .ok (.istore 13, 2) := by decide +kernel
theorem dL_law_494 : decode code 494 = .ok (.iload 16, 2) := by decide +kernel
theorem dL_law_496 : decode code 496 = .ok (.iload 15, 2) := by decide +kernel
theorem dL_law_498 : decode code 498 = .ok (.ifCond .le 8, 3) := by decide +kernel
theorem dL_law_501 : decode code 501 = .ok (.bipush (-2), 2) := by decide +kernel
theorem dL_law_503 : decode code 503 = .ok (.goto 17, 3) := by decide +kernel
theorem dL_law_506 : decode code 506 = .ok (.iload 14, 2) := by decide +kernel
theorem dL_law_508 : decode code 508 = .ok (.iload 8, 2) := by decide +kernel
theorem dL_law_510 : decode code 510 = .ok (.if_icmp .ge 8, 3) := by decide +kernel
theorem dL_law_513 : decode code 513 = .ok (.bipush (-3), 2) := by decide +kernel
theorem dL_law_515 : decode code 515 = .ok (.goto 5, 3) := by decide +kernel
theorem dL_law_518 : decode code 518 = .ok (.iload 16, 2) := by decide +kernel
theorem dL_law_520 : decode code 520 = .ok (.if_icmp .ne 30, 3) := by decide +kernel
theorem dL_law_523 : decode code 523 = .ok (.iload 16, 2) := by decide +kernel
theorem dL_law_525 : decode code 525 = .ok (.ifCond .lt 18, 3) := by decide +kernel
theorem dL_law_528 : decode code 528 = .ok (.aload_n 1, 1) := by decide +kernel
theorem dL_law_529 : decode code 529 = .ok (.iload 7, 2) := by decide +kernel
theorem dL_law_531 : decode code 531 = .ok (.iconst 1, 1) := by decide +kernel
theorem dL_law_532 : decode code 532 = .ok (.invokevirtual 27, 3) := by decide +kernel
theorem dL_law_535 : decode code 535 = .ok (.iload 14, 2) := by decide +kernel
theorem dL_law_537 : decode code 537 = .ok (.iload 8, 2) := by decide +kernel
theorem dL_law_539 : decode code 539 = .ok (.isub, 1) := by decide +kernel
theorem dL_law_540 : decode code 540 = .ok (.if_icmp .ne 10, 3) := by decide +kernel
theorem dL_law_543 : decode code 543 = .ok (.iload 16, 2) := by decide +kernel
theorem dL_law_545 : decode code 545 = .ok (.ldc 120, 2) := by decide +kernel
theorem dL_law_547 : decode code 547 = .ok (.if_icmp .le 5, 3) := by decide +kernel
theorem dL_law_550 : decode code 550 = .ok (.iconst 0, 1) := by decide +kernel
theorem dL_law_551 : decode code 551 = .ok (.ireturn, 1) := by decide +kernel
theorem dL_law_552 : decode code 552 = .ok (.lconst 0, 1) := by decide +kernel
theorem dL_law_553 : decode code 553 = .ok (.lstore 17, 2) := by decide +kernel
theorem dL_law_555 : decode code 555 = .ok (.iconst 0, 1) := by decide +kernel
theorem dL_law_556 : decode code 556 = .ok (.istore 19, 2) := by decide +kernel
theorem dL_law_558 : decode code 558 = .ok (.iload 19, 2) := by decide +kernel
theorem dL_law_560 : decode code 560 = .ok (.bipush 6, 2) := by decide +kernel
theorem dL_law_562 : decode code 562 = .ok (.if_icmp .ge 25, 3) := by decide +kernel
theorem dL_law_565 : decode code 565 = .ok (.iload 16, 2) := by decide +kernel
theorem dL_law_567 : decode code 567 = .ok (.ifCond .lt 20, 3) := by decide +kernel
theorem dL_law_570 : decode code 570 = .ok (.lload 17, 2) := by decide +kernel
theorem dL_law_572 : decode code 572 = .ok (.aload_n 1, 1) := by decide +kernel
theorem dL_law_573 : decode code 573 = .ok (.iload 19, 2) := by decide +kernel
theorem dL_law_575 : decode code 575 = .ok (.invokevirtual 44, 3) := by decide +kernel
theorem dL_law_578 : decode code 578 = .ok (.ladd, 1) := by decide +kernel
theorem dL_law_579 : decode code 579 = .ok (.lstore 17, 2) := by decide +kernel
theorem dL_law_581 : decode code 581 = .ok (.iinc 19 1, 3) := by decide +kernel
theorem dL_law_584 : decode code 584 = .ok (.goto (-26), 3) := by decide +kernel
theorem dL_law_587 : decode code 587 = .ok (.iload 16, 2) := by decide +kernel
theorem dL_law_589 : decode code 589 = .ok (.ifCond .lt 601, 3) := by decide +kernel
theorem dL_law_592 : decode code 592 = .ok (.lload 17, 2) := by decide +kernel
theorem dL_law_594 : decode code 594 = .ok (.iload 8, 2) := by decide +kernel
theorem dL_law_596 : decode code 596 = .ok (.i2l, 1) := by decide +kernel
theorem dL_law_597 : decode code 597 = .ok (.lcmp, 1) := by decide +kernel
theorem dL_law_598 : decode code 598 = .ok (.ifCond .eq 592, 3) := by decide +kernel
theorem dL_law_601 : decode code 601 = .ok (.iconst 0, 1) := by decide +kernel
theorem dL_law_602 : decode code 602 = .ok (.ireturn, 1) := by decide +kernel
theorem dL_law_603 : decode code 603 = .ok (.aload_n 1, 1) := by decide +kernel
theorem dL_law_604 : decode code 604 = .ok (.iload 7, 2) := by decide +kernel
theorem dL_law_606 : decode code 606 = .ok (.iconst 1, 1) := by decide +kernel
theorem dL_law_607 : decode code 607 = .ok (.invokevirtual 27, 3) := by decide +kernel
theorem dL_law_610 : decode code 610 = .ok (.istore 14, 2) := by decide +kernel
theorem dL_law_612 : decode code 612 = .ok (.aload_n 1, 1) := by decide +kernel
theorem dL_law_613 : decode code 613 = .ok (.iload 9, 2) := by decide +kernel
theorem dL_law_615 : decode code 615 = .ok (.iconst 1, 1) := by decide +kernel
theorem dL_law_616 : decode code 616 = .ok (.invokevirtual 27, 3) := by decide +kernel
theorem dL_law_619 : decode code 619 = .ok (.istore 15, 2) := by decide +kernel
theorem dL_law_621 : decode code 621 = .ok (.aload_n 1, 1) := by decide +kernel
theorem dL_law_622 : decode code 622 = .ok (.iload 7, 2) := by decide +kernel
theorem dL_law_624 : decode code 624 = .ok (.iload 9, 2) := by decide +kernel
theorem dL_law_626 : decode code 626 = .ok (.iload 8, 2) := by decide +kernel
theorem dL_law_628 : decode code 628 = .ok (.invokevirtual 121, 3) := by decide +kernel
theorem dL_law_631 : decode code 631 = .ok (.istore 16, 2) := by decide +kernel
theorem dL_law_633 : decode code 633 = .ok (.iload 16, 2) := by decide +kernel
theorem dL_law_635 : decode code 635 = .ok (.ifCond .lt 7, 3) := by decide +kernel
theorem dL_law_638 : decode code 638 = .ok (.iconst 1, 1) := by decide +kernel
theorem dL_law_639 : decode code 639 = .ok (.goto 4, 3) := by decide +kernel
theorem dL_law_642 : decode code 642 = .ok (.iconst 0, 1) := by decide +kernel
theorem dL_law_643 : decode code 643 = .ok (.istore 13, 2) := by decide +kernel
theorem dL_law_645 : decode code 645 = .ok (.iload 16, 2) := by decide +kernel
theorem dL_law_647 : decode code 647 = .ok (.ifCond .lt 63, 3) := by decide +kernel
theorem dL_law_650 : decode code 650 = .ok (.iload 16, 2) := by decide +kernel
theorem dL_law_652 : decode code 652 = .ok (.iload 15, 2) := by decide +kernel
theorem dL_law_654 : decode code 654 = .ok (.iload 8, 2) := by decide +kernel
theorem dL_law_656 : decode code 656 = .ok (.iadd, 1) := by decide +kernel
theorem dL_law_657 : decode code 657 = .ok (.if_icmp .ne 51, 3) := by decide +kernel
theorem dL_law_660 : decode code 660 = .ok (.aload_n 1, 1) := by decide +kernel
theorem dL_law_661 : decode code 661 = .ok (.iload 7, 2) := by decide +kernel
theorem dL_law_663 : decode code 663 = .ok (.iconst 1, 1) := by decide +kernel
theorem dL_law_664 : decode code 664 = .ok (.invokevirtual 27, 3) := by decide +kernel
theorem dL_law_667 : decode code 667 = .ok (.iload 14, 2) := by decide +kernel
theorem dL_law_669 : decode code 669 = .ok (.iload 8, 2) := by decide +kernel
theorem dL_law_671 : decode code 671 = .ok (.isub, 1) := by decide +kernel
theorem dL_law_672 : decode code 672 = .ok (.if_icmp .ne 36, 3) := by decide +kernel
theorem dL_law_675 : decode code 675 = .ok (.aload_n 1, 1) := by decide +kernel
theorem dL_law_676 : decode code 676 = .ok (.iconst 1, 1) := by decide +kernel
theorem dL_law_677 : decode code 677 = .ok (.invokevirtual 60, 3) := by decide +kernel
theorem dL_law_680 : decode code 680 = .ok (.iload 12, 2) := by decide +kernel
theorem dL_law_682 : decode code 682 = .ok (.if_icmp .ne 26, 3) := by decide +kernel
theorem dL_law_685 : decode code 685 = .ok (.aload_n 1, 1) := by decide +kernel
theorem dL_law_686 : decode code 686 = .ok (.iconst 1, 1) := by decide +kernel
theorem dL_law_687 : decode code 687 = .ok (.invokevirtual 44, 3) := by decide +kernel
theorem dL_law_690 : decode code 690 = .ok (.aload_n 1, 1) := by decide +kernel
theorem dL_law_691 : decode code 691 = .ok (.iconst 0, 1) := by decide +kernel
theorem dL_law_692 : decode code 692 = .ok (.invokevirtual 44, 3) := by decide +kernel
theorem dL_law_695 : decode code 695 = .ok (.lsub, 1) := by decide +kernel
theorem dL_law_696 : decode code 696 = .ok (.aload_n 1, 1) := by decide +kernel
theorem dL_law_697 : decode code 697 = .ok (.invokevirtual 57, 3) := by decide +kernel
theorem dL_law_700 : decode code 700 = .ok (.iload 11, 2) := by decide +kernel
theorem dL_law_702 : decode code 702 = .ok (.isub, 1) := by decide +kernel
theorem dL_law_703 : decode code 703 = .ok (.i2l, 1) := by decide +kernel
theorem dL_law_704 : decode code 704 = .ok (.lcmp, 1) := by decide +kernel
theorem dL_law_705 : decode code 705 = .ok (.ifCond .eq 5, 3) := by decide +kernel
theorem dL_law_708 : decode code 708 = .ok (.iconst 0, 1) := by decide +kernel
theorem dL_law_709 : decode code 709 = .ok (.ireturn, 1) := by decide +kernel
theorem dL_law_710 : decode code 710 = .ok (.iload 16, 2) := by decide +kernel
theorem dL_law_712 : decode code 712 = .ok (.ifCond .ge 24, 3) := by decide +kernel
theorem dL_law_715 : decode code 715 = .ok (.aload_n 1, 1) := by decide +kernel
theorem dL_law_716 : decode code 716 = .ok (.invokevirtual 57, 3) := by decide +kernel
theorem dL_law_719 : decode code 719 = .ok (.iload 11, 2) := by decide +kernel
theorem dL_law_721 : decode code 721 = .ok (.if_icmp .ne 28, 3) := by decide +kernel
theorem dL_law_724 : decode code 724 = .ok (.aload_n 1, 1) := by decide +kernel
theorem dL_law_725 : decode code 725 = .ok (.iload 7, 2) := by decide +kernel
theorem dL_law_727 : decode code 727 = .ok (.iconst 1, 1) := by decide +kernel
theorem dL_law_728 : decode code 728 = .ok (.invokevirtual 27, 3) := by decide +kernel
theorem dL_law_731 : decode code 731 = .ok (.iload 14, 2) := by decide +kernel
theorem dL_law_733 : decode code 733 = .ok (.if_icmp .ne 16, 3) := by decide +kernel
theorem dL_law_736 : decode code 736 = .ok (.iload 7, 2) := by decide +kernel
theorem dL_law_738 : decode code 738 = .ok (.iload 9, 2) := by decide +kernel
theorem dL_law_740 : decode code 740 = .ok (.if_icmp .ne 450, 3) := by decide +kernel
theorem dL_law_743 : decode code 743 = .ok (.iload 16, 2) := by decide +kernel
theorem dL_law_745 : decode code 745 = .ok (.iconst (-1), 1) := by decide +kernel
theorem dL_law_746 : decode code 746 = .ok (.if_icmp .eq 444, 3) := by decide +kernel
theorem dL_law_749 : decode code 749 = .ok (.iconst 0, 1) := by decide +kernel
theorem dL_law_750 : decode code 750 = .ok (.ireturn, 1) := by decide +kernel
theorem dL_law_751 : decode code 751 = .ok (.iload 5, 2) := by decide +kernel
theorem dL_law_753 : decode code 753 = .ok (.bipush 16, 2) := by decide +kernel
theorem dL_law_755 : decode code 755 = .ok (.iushr, 1) := by decide +kernel
theorem dL_law_756 : decode code 756 = .ok (.iconst 1, 1) := by decide +kernel
theorem dL_law_757 : decode code 757 = .ok (.iand, 1) := by decide +kernel
theorem dL_law_758 : decode code 758 = .ok (.ifCond .ne 67, 3) := by decide +kernel
theorem dL_law_761 : decode code 761 = .ok (.iconst 1, 1) := by decide +kernel
theorem dL_law_762 : decode code 762 = .ok (.iload 5, 2) := by decide +kernel
theorem dL_law_764 : decode code 764 = .ok (.bipush 17, 2) := by decide +kernel
theorem dL_law_766 : decode code 766 = .ok (.iushr, 1) := by decide +kernel
theorem dL_law_767 : decode code 767 = .ok (.bipush 15, 2) := by decide +kernel
theorem dL_law_769 : decode code 769 = .ok (.iand, 1) := by decide +kernel
theorem dL_law_770 : decode code 770 = .ok (.iadd, 1) := by decide +kernel
theorem dL_law_771 : decode code 771 = .ok (.istore 14, 2) := by decide +kernel
theorem dL_law_773 : decode code 773 = .ok (.aload_n 1, 1) := by decide +kernel
theorem dL_law_774 : decode code 774 = .ok (.iload 14, 2) := by decide +kernel
theorem dL_law_776 : decode code 776 = .ok (.invokevirtual 63, 3) := by decide +kernel
theorem dL_law_779 : decode code 779 = .ok (.istore 15, 2) := by decide +kernel
theorem dL_law_781 : decode code 781 = .ok (.aload_n 1, 1) := by decide +kernel
theorem dL_law_782 : decode code 782 = .ok (.iconst 0, 1) := by decide +kernel
theorem dL_law_783 : decode code 783 = .ok (.invokevirtual 60, 3) := by decide +kernel
theorem dL_law_786 : decode code 786 = .ok (.istore 16, 2) := by decide +kernel
theorem dL_law_788 : decode code 788 = .ok (.aload_n 1, 1) := by decide +kernel
theorem dL_law_789 : decode code 789 = .ok (.iload 14, 2) := by decide +kernel
theorem dL_law_791 : decode code 791 = .ok (.invokevirtual 124, 3) := by decide +kernel
theorem dL_law_794 : decode code 794 = .ok (.iload 16, 2) := by decide +kernel
theorem dL_law_796 : decode code 796 = .ok (.iload 14, 2) := by decide +kernel
theorem dL_law_798 : decode code 798 = .ok (.iadd, 1) := by decide +kernel
theorem dL_law_799 : decode code 799 = .ok (.if_icmp .ne 7, 3) := by decide +kernel
theorem dL_law_802 : decode code 802 = .ok (.iconst 1, 1) := by decide +kernel
theorem dL_law_803 : decode code 803 = .ok (.goto 4, 3) := by decide +kernel
theorem dL_law_806 : decode code 806 = .ok (.iconst 0, 1) := by decide +kernel
theorem dL_law_807 : decode code 807 = .ok (.istore 13, 2) := by decide +kernel
theorem dL_law_809 : decode code 809 = .ok (.iload 13, 2) := by decide +kernel
theorem dL_law_811 : decode code 811 = .ok (.ifCond .eq 12, 3) := by decide +kernel
theorem dL_law_814 : decode code 814 = .ok (.aload_n 1, 1) := by decide +kernel
theorem dL_law_815 : decode code 815 = .ok (.invokevirtual 57, 3) := by decide +kernel
theorem dL_law_818 : decode code 818 = .ok (.iload 15, 2) := by decide +kernel
theorem dL_law_820 : decode code 820 = .ok (.if_icmp .eq 370, 3) := by decide +kernel
theorem dL_law_823 : decode code 823 = .ok (.iconst 0, 1) := by decide +kernel
theorem dL_law_824 : decode code 824 = .ok (.ireturn, 1) := by decide +kernel
theorem dL_law_825 : decode code 825 = .ok (.iconst 1, 1) := by decide +kernel
theorem dL_law_826 : decode code 826 = .ok (.iload 5, 2) := by decide +kernel
theorem dL_law_828 : decode code 828 = .ok (.bipush 17, 2) := by decide +kernel
theorem dL_law_830 : decode code 830 = .ok (.iushr, 1) := by decide +kernel
theorem dL_law_831 : decode code 831 = .ok (.bipush 15, 2) := by decide +kernel
theorem dL_law_833 : decode code 833 = .ok (.iand, 1) := by decide +kernel
theorem dL_law_834 : decode code 834 = .ok (.iadd, 1) := by decide +kernel
theorem dL_law_835 : decode code 835 = .ok (.istore 14, 2) := by decide +kernel
theorem dL_law_837 : decode code 837 = .ok (.aload_n 1, 1) := by decide +kernel
theorem dL_law_838 : decode code 838 = .ok (.iload 7, 2) := by decide +kernel
theorem dL_law_840 : decode code 840 = .ok (.iconst 3, 1) := by decide +kernel
theorem dL_law_841 : decode code 841 = .ok (.invokevirtual 27, 3) := by decide +kernel
theorem dL_law_844 : decode code 844 = .ok (.istore 15, 2) := by decide +kernel
theorem dL_law_846 : decode code 846 = .ok (.aload_n 1, 1) := by decide +kernel
theorem dL_law_847 : decode code 847 = .ok (.iload 7, 2) := by decide +kernel
theorem dL_law_849 : decode code 849 = .ok (.iload 14, 2) := by decide +kernel
theorem dL_law_851 : decode code 851 = .ok (.invokevirtual 127, 3) := by decide +kernel
theorem dL_law_854 : decode code 854 = .ok (.istore 16, 2) := by decide +kernel
theorem dL_law_856 : decode code 856 = .ok (.iload 16, 2) := by decide +kernel
theorem dL_law_858 : decode code 858 = .ok (.ifCond .lt 7, 3) := by decide +kernel
theorem dL_law_861 : decode code 861 = .ok (.iconst 1, 1) := by decide +kernel
theorem dL_law_862 : decode code 862 = .ok (.goto 4, 3) := by decide +kernel
theorem dL_law_865 : decode code 865 = .ok (.iconst 0, 1) := by decide +kernel
theorem dL_law_866 : decode code 866 = .ok (.istore 13, 2) := by decide +kernel
theorem dL_law_868 : decode code 868 = .ok (.iload 16, 2) := by decide +kernel
theorem dL_law_870 : decode code 870 = .ok (.iload 15, 2) := by decide +kernel
theorem dL_law_872 : decode code 872 = .ok (.ifCond .le 8, 3) := by decide +kernel
theorem dL_law_875 : decode code 875 = .ok (.bipush (-2), 2) := by decide +kernel
theorem dL_law_877 : decode code 877 = .ok (.goto 11, 3) := by decide +kernel
theorem dL_law_880 : decode code 880 = .ok (.aload_n 1, 1) := by decide +kernel
theorem dL_law_881 : decode code 881 = .ok (.iconst 0, 1) := by decide +kernel
theorem dL_law_882 : decode code 882 = .ok (.invokevirtual 60, 3) := by decide +kernel
theorem dL_law_885 : decode code 885 = .ok (.iload 14, 2) := by decide +kernel
theorem dL_law_887 : decode code 887 = .ok (.iadd, 1) := by decide +kernel
theorem dL_law_888 : decode code 888 = .ok (.if_icmp .ne 35, 3) := by decide +kernel
theorem dL_law_891 : decode code 891 = .ok (.aload_n 1, 1) := by decide +kernel
theorem dL_law_892 : decode code 892 = .ok (.iload 7, 2) := by decide +kernel
theorem dL_law_894 : decode code 894 = .ok (.iconst 3, 1) := by decide +kernel
theorem dL_law_895 : decode code 895 = .ok (.invokevirtual 27, 3) := by decide +kernel
theorem dL_law_898 : decode code 898 = .ok (.iload 15, 2) := by decide +kernel
theorem dL_law_900 : decode code 900 = .ok (.ifCond .le 8, 3) := by decide +kernel
theorem dL_law_903 : decode code 903 = .ok (.iload 15, 2) := by decide +kernel
theorem dL_law_905 : decode code 905 = .ok (.goto 5, 3) := by decide +kernel
theorem dL_law_908 : decode code 908 = .ok (.iload 14, 2) := by decide +kernel
theorem dL_law_910 : decode code 910 = .ok (.if_icmp .ne 13, 3) := by decide +kernel
theorem dL_law_913 : decode code 913 = .ok (.aload_n 1, 1) := by decide +kernel
theorem dL_law_914 : decode code 914 = .ok (.iconst 1, 1) := by decide +kernel
theorem dL_law_915 : decode code 915 = .ok (.invokevirtual 60, 3) := by decide +kernel
theorem dL_law_918 : decode code 918 = .ok (.iload 12, 2) := by decide +kernel
theorem dL_law_920 : decode code 920 = .ok (.if_icmp .eq 270, 3) := by decide +kernel
theorem dL_law_923 : decode code 923 = .ok (.iconst 0, 1) := by decide +kernel
theorem dL_law_924 : decode code 924 = .ok (.ireturn, 1) := by decide +kernel
theorem dL_law_925 : decode code 925 = .ok (.new 73, 3) := by decide +kernel
theorem dL_law_928 : decode code 928 = .ok (.dup, 1) := by decide +kernel
theorem dL_law_929 : decode code 929 = .ok (.invokespecial 75, 3) := by decide +kernel
theorem dL_law_932 : decode code 932 = .ok (.iload 6, 2) := by decide +kernel
theorem dL_law_934 : decode code 934 = .ok (.invokevirtual 80, 3) := by decide +kernel
theorem dL_law_937 : decode code 937 = .ok (.ldc 130, 2) := by decide +kernel
theorem dL_law_939 : decode code 939 = .ok (.invokevirtual 85, 3) := by decide +kernel
theorem dL_law_942 : decode code 942 = .ok (.iload 8, 2) := by decide +kernel
theorem dL_law_944 : decode code 944 = .ok (.invokevirtual 80, 3) := by decide +kernel
theorem dL_law_947 : decode code 947 = .ok (.ldc 132, 2) := by decide +kernel
theorem dL_law_949 : decode code 949 = .ok (.invokevirtual 85, 3) := by decide +kernel
theorem dL_law_952 : decode code 952 = .ok (.iload 5, 2) := by decide +kernel
theorem dL_law_954 : decode code 954 = .ok (.bipush 16, 2) := by decide +kernel
theorem dL_law_956 : decode code 956 = .ok (.iushr, 1) := by decide +kernel
theorem dL_law_957 : decode code 957 = .ok (.iconst 3, 1) := by decide +kernel
theorem dL_law_958 : decode code 958 = .ok (.iand, 1) := by decide +kernel
theorem dL_law_959 : decode code 959 = .ok (.invokevirtual 80, 3) := by decide +kernel
theorem dL_law_962 : decode code 962 = .ok (.ldc 130, 2) := by decide +kernel
theorem dL_law_964 : decode code 964 = .ok (.invokevirtual 85, 3) := by decide +kernel
theorem dL_law_967 : decode code 967 = .ok (.iconst 1, 1) := by decide +kernel
theorem dL_law_968 : decode code 968 = .ok (.iload 5, 2) := by decide +kernel
theorem dL_law_970 : decode code 970 = .ok (.bipush 18, 2) := by decide +kernel
theorem dL_law_972 : decode code 972 = .ok (.iushr, 1) := by decide +kernel
theorem dL_law_973 : decode code 973 = .ok (.bipush 7, 2) := by decide +kernel
theorem dL_law_975 : decode code 975 = .ok (.iand, 1) := by decide +kernel
theorem dL_law_976 : decode code 976 = .ok (.iadd, 1) := by decide +kernel
theorem dL_law_977 : decode code 977 = .ok (.invokevirtual 80, 3) := by decide +kernel
theorem dL_law_980 : decode code 980 = .ok (.invokevirtual 94, 3) := by decide +kernel
theorem dL_law_983 : decode code 983 = .ok (.astore 14, 2) := by decide +kernel
theorem dL_law_985 : decode code 985 = .ok (.aload_n 1, 1) := by decide +kernel
theorem dL_law_986 : decode code 986 = .ok (.aload 14, 2) := by decide +kernel
theorem dL_law_988 : decode code 988 = .ok (.invokestatic 98, 3) := by decide +kernel
theorem dL_law_991 : decode code 991 = .ok (.aload_n 1, 1) := by decide +kernel
theorem dL_law_992 : decode code 992 = .ok (.invokevirtual 134, 3) := by decide +kernel
theorem dL_law_995 : decode code 995 = .ok (.istore 15, 2) := by decide +kernel
theorem dL_law_997 : decode code 997 = .ok (.aload_n 1, 1) := by decide +kernel
theorem dL_law_998 : decode code 998 = .ok (.aload 14, 2) := by decide +kernel
theorem dL_law_1000 : decode code 1000 = .ok (.invokestatic 98, 3) := by decide +kernel
theorem dL_law_1003 : decode code 1003 = .ok (.aload_n 1, 1) := by decide +kernel
theorem dL_law_1004 : decode code 1004 = .ok (.invokevirtual 137, 3) := by decide +kernel
theorem dL_law_1007 : decode code 1007 = .ok (.istore 16, 2) := by decide +kernel
theorem dL_law_1009 : decode code 1009 = .ok (.aload_n 1, 1) := by decide +kernel
theorem dL_law_1010 : decode code 1010 = .ok (.aload 14, 2) := by decide +kernel
theorem dL_law_1012 : decode code 1012 = .ok (.invokestatic 98, 3) := by decide +kernel
theorem dL_law_1015 : decode code 1015 = .ok (.aload_n 1, 1) := by decide +kernel
theorem dL_law_1016 : decode code 1016 = .ok (.invokevirtual 140, 3) := by decide +kernel
theorem dL_law_1019 : decode code 1019 = .ok (.istore 17, 2) := by decide +kernel
theorem dL_law_1021 : decode code 1021 = .ok (.iconst 1, 1) := by decide +kernel
theorem dL_law_1022 : decode code 1022 = .ok (.istore 13, 2) := by decide +kernel
theorem dL_law_1024 : decode code 1024 = .ok (.iload 15, 2) := by decide +kernel
theorem dL_law_1026 : decode code 1026 = .ok (.iload 17, 2) := by decide +kernel
theorem dL_law_1028 : decode code 1028 = .ok (.if_icmp .ne 52, 3) := by decide +kernel
theorem dL_law_1031 : decode code 1031 = .ok (.iload 16, 2) := by decide +kernel
theorem dL_law_1033 : decode code 1033 = .ok (.iload 15, 2) := by decide +kernel
theorem dL_law_1035 : decode code 1035 = .ok (.if_icmp .lt 45, 3) := by decide +kernel
theorem dL_law_1038 : decode code 1038 = .ok (.iload 16, 2) := by decide +kernel
theorem dL_law_1040 : decode code 1040 = .ok (.iconst 2, 1) := by decide +kernel
theorem dL_law_1041 : decode code 1041 = .ok (.if_icmp .gt 39, 3) := by decide +kernel
theorem dL_law_1044 : decode code 1044 = .ok (.aload_n 1, 1) := by decide +kernel
theorem dL_law_1045 : decode code 1045 = .ok (.iconst 0, 1) := by decide +kernel
theorem dL_law_1046 : decode code 1046 = .ok (.invokevirtual 44, 3) := by decide +kernel
theorem dL_law_1049 : decode code 1049 = .ok (.lconst 0, 1) := by decide +kernel
theorem dL_law_1050 : decode code 1050 = .ok (.lcmp, 1) := by decide +kernel
theorem dL_law_1051 : decode code 1051 = .ok (.ifCond .lt 29, 3) := by decide +kernel
theorem dL_law_1054 : decode code 1054 = .ok (.aload_n 1, 1) := by decide +kernel
theorem dL_law_1055 : decode code 1055 = .ok (.iconst 1, 1) := by decide +kernel
theorem dL_law_1056 : decode code 1056 = .ok (.invokevirtual 44, 3) := by decide +kernel
theorem dL_law_1059 : decode code 1059 = .ok (.iload 11, 2) := by decide +kernel
theorem dL_law_1061 : decode code 1061 = .ok (.i2l, 1) := by decide +kernel
theorem dL_law_1062 : decode code 1062 = .ok (.lcmp, 1) := by decide +kernel
theorem dL_law_1063 : decode code 1063 = .ok (.ifCond .ne 17, 3) := by decide +kernel
theorem dL_law_1066 : decode code 1066 = .ok (.aload_n 1, 1) := by decide +kernel
theorem dL_law_1067 : decode code 1067 = .ok (.iconst 2, 1) := by decide +kernel
theorem dL_law_1068 : decode code 1068 = .ok (.invokevirtual 44, 3) := by decide +kernel
theorem dL_law_1071 : decode code 1071 = .ok (.aload_n 1, 1) := by decide +kernel
theorem dL_law_1072 : decode code 1072 = .ok (.invokevirtual 57, 3) := by decide +kernel
theorem dL_law_1075 : decode code 1075 = .ok (.i2l, 1) := by decide +kernel
theorem dL_law_1076 : decode code 1076 = .ok (.lcmp, 1) := by decide +kernel
theorem dL_law_1077 : decode code 1077 = .ok (.ifCond .eq 5, 3) := by decide +kernel
theorem dL_law_1080 : decode code 1080 = .ok (.iconst 0, 1) := by decide +kernel
theorem dL_law_1081 : decode code 1081 = .ok (.ireturn, 1) := by decide +kernel
theorem dL_law_1082 : decode code 1082 = .ok (.aload_n 1, 1) := by decide +kernel
theorem dL_law_1083 : decode code 1083 = .ok (.iconst 1, 1) := by decide +kernel
theorem dL_law_1084 : decode code 1084 = .ok (.invokevirtual 60, 3) := by decide +kernel
theorem dL_law_1087 : decode code 1087 = .ok (.iload 12, 2) := by decide +kernel
theorem dL_law_1089 : decode code 1089 = .ok (.iload 17, 2) := by decide +kernel
theorem dL_law_1091 : decode code 1091 = .ok (.ifCond .le 8, 3) := by decide +kernel
theorem dL_law_1094 : decode code 1094 = .ok (.iload 8, 2) := by decide +kernel
theorem dL_law_1096 : decode code 1096 = .ok (.goto 4, 3) := by decide +kernel
theorem dL_law_1099 : decode code 1099 = .ok (.iconst 0, 1) := by decide +kernel
theorem dL_law_1100 : decode code 1100 = .ok (.isub, 1) := by decide +kernel
theorem dL_law_1101 : decode code 1101 = .ok (.iload 17, 2) := by decide +kernel
theorem dL_law_1103 : decode code 1103 = .ok (.iconst 1, 1) := by decide +kernel
theorem dL_law_1104 : decode code 1104 = .ok (.if_icmp .le 16, 3) := by decide +kernel
theorem dL_law_1107 : decode code 1107 = .ok (.iconst 1, 1) := by decide +kernel
theorem dL_law_1108 : decode code 1108 = .ok (.iload 5, 2) := by decide +kernel
theorem dL_law_1110 : decode code 1110 = .ok (.bipush 18, 2) := by decide +kernel
theorem dL_law_1112 : decode code 1112 = .ok (.iushr, 1) := by decide +kernel
theorem dL_law_1113 : decode code 1113 = .ok (.bipush 7, 2) := by decide +kernel
theorem dL_law_1115 : decode code 1115 = .ok (.iand, 1) := by decide +kernel
theorem dL_law_1116 : decode code 1116 = .ok (.iadd, 1) := by decide +kernel
theorem dL_law_1117 : decode code 1117 = .ok (.goto 4, 3) := by decide +kernel
theorem dL_law_1120 : decode code 1120 = .ok (.iconst 0, 1) := by decide +kernel
theorem dL_law_1121 : decode code 1121 = .ok (.isub, 1) := by decide +kernel
theorem dL_law_1122 : decode code 1122 = .ok (.if_icmp .eq 68, 3) := by decide +kernel
theorem dL_law_1125 : decode code 1125 = .ok (.iconst 0, 1) := by decide +kernel
theorem dL_law_1126 : decode code 1126 = .ok (.ireturn, 1) := by decide +kernel
theorem dL_law_1127 : decode code 1127 = .ok (.iload 5, 2) := by decide +kernel
theorem dL_law_1129 : decode code 1129 = .ok (.bipush 16, 2) := by decide +kernel
theorem dL_law_1131 : decode code 1131 = .ok (.iushr, 1) := by decide +kernel
theorem dL_law_1132 : decode code 1132 = .ok (.sipush 1023, 3) := by decide +kernel
theorem dL_law_1135 : decode code 1135 = .ok (.iand, 1) := by decide +kernel
theorem dL_law_1136 : decode code 1136 = .ok (.sipush 1000, 3) := by decide +kernel
theorem dL_law_1139 : decode code 1139 = .ok (.irem, 1) := by decide +kernel
theorem dL_law_1140 : decode code 1140 = .ok (.istore 14, 2) := by decide +kernel
theorem dL_law_1142 : decode code 1142 = .ok (.aload_n 1, 1) := by decide +kernel
theorem dL_law_1143 : decode code 1143 = .ok (.iload 6, 2) := by decide +kernel
theorem dL_law_1145 : decode code 1145 = .ok (.iconst 0, 1) := by decide +kernel
theorem dL_law_1146 : decode code 1146 = .ok (.invokevirtual 35, 3) := by decide +kernel
theorem dL_law_1149 : decode code 1149 = .ok (.istore 15, 2) := by decide +kernel
theorem dL_law_1151 : decode code 1151 = .ok (.aload_n 1, 1) := by decide +kernel
theorem dL_law_1152 : decode code 1152 = .ok (.iload 6, 2) := by decide +kernel
theorem dL_law_1154 : decode code 1154 = .ok (.iload 14, 2) := by decide +kernel
theorem dL_law_1156 : decode code 1156 = .ok (.invokevirtual 143, 3) := by decide +kernel
theorem dL_law_1159 : decode code 1159 = .ok (.iload 15, 2) := by decide +kernel
theorem dL_law_1161 : decode code 1161 = .ok (.if_icmp .ne 7, 3) := by decide +kernel
theorem dL_law_1164 : decode code 1164 = .ok (.iconst 1, 1) := by decide +kernel
theorem dL_law_1165 : decode code 1165 = .ok (.goto 4, 3) := by decide +kernel
theorem dL_law_1168 : decode code 1168 = .ok (.iconst 0, 1) := by decide +kernel
theorem dL_law_1169 : decode code 1169 = .ok (.istore 13, 2) := by decide +kernel
theorem dL_law_1171 : decode code 1171 = .ok (.iload 13, 2) := by decide +kernel
theorem dL_law_1173 : decode code 1173 = .ok (.ifCond .eq 15, 3) := by decide +kernel
theorem dL_law_1176 : decode code 1176 = .ok (.aload_n 1, 1) := by decide +kernel
theorem dL_law_1177 : decode code 1177 = .ok (.iload 6, 2) := by decide +kernel
theorem dL_law_1179 : decode code 1179 = .ok (.iconst 0, 1) := by decide +kernel
theorem dL_law_1180 : decode code 1180 = .ok (.invokevirtual 35, 3) := by decide +kernel
theorem dL_law_1183 : decode code 1183 = .ok (.iload 14, 2) := by decide +kernel
theorem dL_law_1185 : decode code 1185 = .ok (.if_icmp .eq 5, 3) := by decide +kernel
theorem dL_law_1188 : decode code 1188 = .ok (.iconst 0, 1) := by decide +kernel
theorem dL_law_1189 : decode code 1189 = .ok (.ireturn, 1) := by decide +kernel
theorem dL_law_1190 : decode code 1190 = .ok (.aload_n 1, 1) := by decide +kernel
theorem dL_law_1191 : decode code 1191 = .ok (.invokestatic 105, 3) := by decide +kernel
theorem dL_law_1194 : decode code 1194 = .ok (.ifCond .eq 30, 3) := by decide +kernel
theorem dL_law_1197 : decode code 1197 = .ok (.aload_n 1, 1) := by decide +kernel
theorem dL_law_1198 : decode code 1198 = .ok (.iconst 5, 1) := by decide +kernel
theorem dL_law_1199 : decode code 1199 = .ok (.invokevirtual 60, 3) := by decide +kernel
theorem dL_law_1202 : decode code 1202 = .ok (.iload 13, 2) := by decide +kernel
theorem dL_law_1204 : decode code 1204 = .ok (.ifCond .eq 15, 3) := by decide +kernel
theorem dL_law_1207 : decode code 1207 = .ok (.bipush 8, 2) := by decide +kernel
theorem dL_law_1209 : decode code 1209 = .ok (.iload 10, 2) := by decide +kernel
theorem dL_law_1211 : decode code 1211 = .ok (.iconst 1, 1) := by decide +kernel
theorem dL_law_1212 : decode code 1212 = .ok (.iadd, 1) := by decide +kernel
theorem dL_law_1213 : decode code 1213 = .ok (.invokestatic 146, 3) := by decide +kernel
theorem dL_law_1216 : decode code 1216 = .ok (.goto 5, 3) := by decide +kernel
theorem dL_law_1219 : decode code 1219 = .ok (.iload 10, 2) := by decide +kernel
theorem dL_law_1221 : decode code 1221 = .ok (.if_icmp .eq 5, 3) := by decide +kernel
theorem dL_law_1224 : decode code 1224 = .ok (.iconst 0, 1) := by decide +kernel
theorem dL_law_1225 : decode code 1225 = .ok (.ireturn, 1) := by decide +kernel
theorem dL_law_1226 : decode code 1226 = .ok (.iload 13, 2) := by decide +kernel
theorem dL_law_1228 : decode code 1228 = .ok (.ifCond .eq 108, 3) := by decide +kernel
theorem dL_law_1231 : decode code 1231 = .ok (.iload 5, 2) := by decide +kernel
theorem dL_law_1233 : decode code 1233 = .ok (.bipush 30, 2) := by decide +kernel
theorem dL_law_1235 : decode code 1235 = .ok (.iushr, 1) := by decide +kernel
theorem dL_law_1236 : decode code 1236 = .ok (.iconst 1, 1) := by decide +kernel
theorem dL_law_1237 : decode code 1237 = .ok (.iand, 1) := by decide +kernel
theorem dL_law_1238 : decode code 1238 = .ok (.iconst 1, 1) := by decide +kernel
theorem dL_law_1239 : decode code 1239 = .ok (.if_icmp .ne 97, 3) := by decide +kernel
theorem dL_law_1242 : decode code 1242 = .ok (.aload_n 1, 1) := by decide +kernel
theorem dL_law_1243 : decode code 1243 = .ok (.invokevirtual 57, 3) := by decide +kernel
theorem dL_law_1246 : decode code 1246 = .ok (.istore 14, 2) := by decide +kernel
theorem dL_law_1248 : decode code 1248 = .ok (.aload_n 1, 1) := by decide +kernel
theorem dL_law_1249 : decode code 1249 = .ok (.invokevirtual 151, 3) := by decide +kernel
theorem dL_law_1252 : decode code 1252 = .ok (.aload_n 1, 1) := by decide +kernel
theorem dL_law_1253 : decode code 1253 = .ok (.iconst 0, 1) := by decide +kernel
theorem dL_law_1254 : decode code 1254 = .ok (.invokevirtual 60, 3) := by decide +kernel
theorem dL_law_1257 : decode code 1257 = .ok (.if_icmp .ne 47, 3) := by decide +kernel
theorem dL_law_1260 : decode code 1260 = .ok (.aload_n 1, 1) := by decide +kernel
theorem dL_law_1261 : decode code 1261 = .ok (.invokevirtual 154, 3) := by decide +kernel
theorem dL_law_1264 : decode code 1264 = .ok (.bipush 8, 2) := by decide +kernel
theorem dL_law_1266 : decode code 1266 = .ok (.iload 10, 2) := by decide +kernel
theorem dL_law_1268 : decode code 1268 = .ok (.iconst 1, 1) := by decide +kernel
theorem dL_law_1269 : decode code 1269 = .ok (.iadd, 1) := by decide +kernel
theorem dL_law_1270 : decode code 1270 = .ok (.invokestatic 146, 3) := by decide +kernel
theorem dL_law_1273 : decode code 1273 = .ok (.iconst 1, 1) := by decide +kernel
theorem dL_law_1274 : decode code 1274 = .ok (.isub, 1) := by decide +kernel
theorem dL_law_1275 : decode code 1275 = .ok (.if_icmp .ne 29, 3) := by decide +kernel
theorem dL_law_1278 : decode code 1278 = .ok (.aload_n 1, 1) := by decide +kernel
theorem dL_law_1279 : decode code 1279 = .ok (.invokevirtual 57, 3) := by decide +kernel
theorem dL_law_1282 : decode code 1282 = .ok (.iload 11, 2) := by decide +kernel
theorem dL_law_1284 : decode code 1284 = .ok (.if_icmp .ne 20, 3) := by decide +kernel
theorem dL_law_1287 : decode code 1287 = .ok (.aload_n 1, 1) := by decide +kernel
theorem dL_law_1288 : decode code 1288 = .ok (.iconst 1, 1) := by decide +kernel
theorem dL_law_1289 : decode code 1289 = .ok (.invokevirtual 60, 3) := by decide +kernel
theorem dL_law_1292 : decode code 1292 = .ok (.iload 12, 2) := by decide +kernel
theorem dL_law_1294 : decode code 1294 = .ok (.if_icmp .ne 10, 3) := by decide +kernel
theorem dL_law_1297 : decode code 1297 = .ok (.aload_n 1, 1) := by decide +kernel
theorem dL_law_1298 : decode code 1298 = .ok (.invokestatic 105, 3) := by decide +kernel
theorem dL_law_1301 : decode code 1301 = .ok (.ifCond .ne 5, 3) := by decide +kernel
theorem dL_law_1304 : decode code 1304 = .ok (.iconst 0, 1) := by decide +kernel
theorem dL_law_1305 : decode code 1305 = .ok (.ireturn, 1) := by decide +kernel
theorem dL_law_1306 : decode code 1306 = .ok (.aload_n 1, 1) := by decide +kernel
theorem dL_law_1307 : decode code 1307 = .ok (.invokevirtual 157, 3) := by decide +kernel
theorem dL_law_1310 : decode code 1310 = .ok (.aload_n 1, 1) := by decide +kernel
theorem dL_law_1311 : decode code 1311 = .ok (.iconst 0, 1) := by decide +kernel
theorem dL_law_1312 : decode code 1312 = .ok (.invokevirtual 60, 3) := by decide +kernel
theorem dL_law_1315 : decode code 1315 = .ok (.if_icmp .ne 19, 3) := by decide +kernel
theorem dL_law_1318 : decode code 1318 = .ok (.aload_n 1, 1) := by decide +kernel
theorem dL_law_1319 : decode code 1319 = .ok (.invokevirtual 57, 3) := by decide +kernel
theorem dL_law_1322 : decode code 1322 = .ok (.iload 14, 2) := by decide +kernel
theorem dL_law_1324 : decode code 1324 = .ok (.if_icmp .ne 10, 3) := by decide +kernel
theorem dL_law_1327 : decode code 1327 = .ok (.aload_n 1, 1) := by decide +kernel
theorem dL_law_1328 : decode code 1328 = .ok (.invokestatic 105, 3) := by decide +kernel
theorem dL_law_1331 : decode code 1331 = .ok (.ifCond .ne 5, 3) := by decide +kernel
theorem dL_law_1334 : decode code 1334 = .ok (.iconst 0, 1) := by decide +kernel
theorem dL_law_1335 : decode code 1335 = .ok (.ireturn, 1) := by decide +kernel
theorem dL_law_1336 : decode code 1336 = .ok (.iinc 4 1, 3) := by decide +kernel
theorem dL_law_1339 : decode code 1339 = .ok (.goto (-1108), 3) := by decide +kernel
theorem dL_law_1342 : decode code 1342 = .ok (.iconst 1, 1) := by decide +kernel
theorem dL_law_1343 : decode code 1343 = .ok (.ireturn, 1) := by decide +kernel
