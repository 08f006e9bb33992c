theorem F_Mo_init_0 : fetch m_Mo_init 0 = some (.aload_n 0) := by decide +kernel
theorem F_Mo_init_1 : fetch m_Mo_init 1 = some (.invokespecial 1) := by decide +kernel
theorem F_Mo_init_4 : fetch m_Mo_init 4 = some (.aload_n 0) := by decide +kernel
theorem F_Mo_init_5 : fetch m_Mo_init 5 = some (.lconst 1) := by decide +kernel
theorem F_Mo_init_6 : fetch m_Mo_init 6 = some (.putfield 7) := by decide +kernel
theorem F_Mo_init_9 : fetch m_Mo_init 9 = some (.aload_n 0) := by decide +kernel
theorem F_Mo_init_10 : fetch m_Mo_init 10 = some (.lconst 1) := by decide +kernel
theorem F_Mo_init_11 : fetch m_Mo_init 11 = some (.putfield 13) := by decide +kernel
theorem F_Mo_init_14 : fetch m_Mo_init 14 = some (.aload_n 0) := by decide +kernel
theorem F_Mo_init_15 : fetch m_Mo_init 15 = some (.lconst 1) := by decide +kernel
theorem F_Mo_init_16 : fetch m_Mo_init 16 = some (.putfield 16) := by decide +kernel
theorem F_Mo_init_19 : fetch m_Mo_init 19 = some (.aload_n 0) := by decide +kernel
theorem F_Mo_init_20 : fetch m_Mo_init 20 = some (.ldc2_w 19) := by decide +kernel
theorem F_Mo_init_23 : fetch m_Mo_init 23 = some (.putfield 21) := by decide +kernel
theorem F_Mo_init_26 : fetch m_Mo_init 26 = some (.aload_n 0) := by decide +kernel
theorem F_Mo_init_27 : fetch m_Mo_init 27 = some (.bipush 16) := by decide +kernel
theorem F_Mo_init_29 : fetch m_Mo_init 29 = some (.newarray .boolean) := by decide +kernel
theorem F_Mo_init_31 : fetch m_Mo_init 31 = some (.putfield 24) := by decide +kernel
theorem F_Mo_init_34 : fetch m_Mo_init 34 = some (.aload_n 0) := by decide +kernel
theorem F_Mo_init_35 : fetch m_Mo_init 35 = some (.bipush 8) := by decide +kernel
theorem F_Mo_init_37 : fetch m_Mo_init 37 = some (.newarray .long) := by decide +kernel
theorem F_Mo_init_39 : fetch m_Mo_init 39 = some (.putfield 28) := by decide +kernel
theorem F_Mo_init_42 : fetch m_Mo_init 42 = some (.aload_n 0) := by decide +kernel
theorem F_Mo_init_43 : fetch m_Mo_init 43 = some (.bipush 8) := by decide +kernel
theorem F_Mo_init_45 : fetch m_Mo_init 45 = some (.newarray .long) := by decide +kernel
theorem F_Mo_init_47 : fetch m_Mo_init 47 = some (.putfield 32) := by decide +kernel
theorem F_Mo_init_50 : fetch m_Mo_init 50 = some (.aload_n 0) := by decide +kernel
theorem F_Mo_init_51 : fetch m_Mo_init 51 = some (.bipush 16) := by decide +kernel
theorem F_Mo_init_53 : fetch m_Mo_init 53 = some (.newarray .int) := by decide +kernel
theorem F_Mo_init_55 : fetch m_Mo_init 55 = some (.putfield 35) := by decide +kernel
theorem F_Mo_init_58 : fetch m_Mo_init 58 = some (.aload_n 0) := by decide +kernel
theorem F_Mo_init_59 : fetch m_Mo_init 59 = some (.bipush 8) := by decide +kernel
theorem F_Mo_init_61 : fetch m_Mo_init 61 = some (.newarray .int) := by decide +kernel
theorem F_Mo_init_63 : fetch m_Mo_init 63 = some (.putfield 39) := by decide +kernel
theorem F_Mo_init_66 : fetch m_Mo_init 66 = some (.aload_n 0) := by decide +kernel
theorem F_Mo_init_67 : fetch m_Mo_init 67 = some (.bipush 8) := by decide +kernel
theorem F_Mo_init_69 : fetch m_Mo_init 69 = some (.newarray .long) := by decide +kernel
theorem F_Mo_init_71 : fetch m_Mo_init 71 = some (.putfield 42) := by decide +kernel
theorem F_Mo_init_74 : fetch m_Mo_init 74 = some (.aload_n 0) := by decide +kernel
theorem F_Mo_init_75 : fetch m_Mo_init 75 = some (.bipush 8) := by decide +kernel
theorem F_Mo_init_77 : fetch m_Mo_init 77 = some (.newarray .long) := by decide +kernel
theorem F_Mo_init_79 : fetch m_Mo_init 79 = some (.putfield 45) := by decide +kernel
theorem F_Mo_init_82 : fetch m_Mo_init 82 = some (.aload_n 0) := by decide +kernel
theorem F_Mo_init_83 : fetch m_Mo_init 83 = some (.bipush 12) := by decide +kernel
theorem F_Mo_init_85 : fetch m_Mo_init 85 = some (.newarray .int) := by decide +kernel
theorem F_Mo_init_87 : fetch m_Mo_init 87 = some (.putfield 48) := by decide +kernel
theorem F_Mo_init_90 : fetch m_Mo_init 90 = some (.aload_n 0) := by decide +kernel
theorem F_Mo_init_91 : fetch m_Mo_init 91 = some (.bipush 96) := by decide +kernel
theorem F_Mo_init_93 : fetch m_Mo_init 93 = some (.newarray .int) := by decide +kernel
theorem F_Mo_init_95 : fetch m_Mo_init 95 = some (.putfield 51) := by decide +kernel
theorem F_Mo_init_98 : fetch m_Mo_init 98 = some (.aload_n 0) := by decide +kernel
theorem F_Mo_init_99 : fetch m_Mo_init 99 = some (.bipush 96) := by decide +kernel
theorem F_Mo_init_101 : fetch m_Mo_init 101 = some (.newarray .int) := by decide +kernel
theorem F_Mo_init_103 : fetch m_Mo_init 103 = some (.putfield 54) := by decide +kernel
theorem F_Mo_init_106 : fetch m_Mo_init 106 = some (.aload_n 0) := by decide +kernel
theorem F_Mo_init_107 : fetch m_Mo_init 107 = some (.bipush 96) := by decide +kernel
theorem F_Mo_init_109 : fetch m_Mo_init 109 = some (.newarray .int) := by decide +kernel
theorem F_Mo_init_111 : fetch m_Mo_init 111 = some (.putfield 57) := by decide +kernel
theorem F_Mo_init_114 : fetch m_Mo_init 114 = some (.aload_n 0) := by decide +kernel
theorem F_Mo_init_115 : fetch m_Mo_init 115 = some (.bipush 96) := by decide +kernel
theorem F_Mo_init_117 : fetch m_Mo_init 117 = some (.newarray .long) := by decide +kernel
theorem F_Mo_init_119 : fetch m_Mo_init 119 = some (.putfield 60) := by decide +kernel
theorem F_Mo_init_122 : fetch m_Mo_init 122 = some (.aload_n 0) := by decide +kernel
theorem F_Mo_init_123 : fetch m_Mo_init 123 = some (.bipush 96) := by decide +kernel
theorem F_Mo_init_125 : fetch m_Mo_init 125 = some (.newarray .long) := by decide +kernel
theorem F_Mo_init_127 : fetch m_Mo_init 127 = some (.putfield 63) := by decide +kernel
theorem F_Mo_init_130 : fetch m_Mo_init 130 = some (.aload_n 0) := by decide +kernel
theorem F_Mo_init_131 : fetch m_Mo_init 131 = some (.bipush 12) := by decide +kernel
theorem F_Mo_init_133 : fetch m_Mo_init 133 = some (.newarray .int) := by decide +kernel
theorem F_Mo_init_135 : fetch m_Mo_init 135 = some (.putfield 66) := by decide +kernel
theorem F_Mo_init_138 : fetch m_Mo_init 138 = some (.aload_n 0) := by decide +kernel
theorem F_Mo_init_139 : fetch m_Mo_init 139 = some (.bipush 72) := by decide +kernel
theorem F_Mo_init_141 : fetch m_Mo_init 141 = some (.newarray .int) := by decide +kernel
theorem F_Mo_init_143 : fetch m_Mo_init 143 = some (.putfield 69) := by decide +kernel
theorem F_Mo_init_146 : fetch m_Mo_init 146 = some (.aload_n 0) := by decide +kernel
theorem F_Mo_init_147 : fetch m_Mo_init 147 = some (.bipush 72) := by decide +kernel
theorem F_Mo_init_149 : fetch m_Mo_init 149 = some (.newarray .int) := by decide +kernel
theorem F_Mo_init_151 : fetch m_Mo_init 151 = some (.putfield 72) := by decide +kernel
theorem F_Mo_init_154 : fetch m_Mo_init 154 = some (.aload_n 0) := by decide +kernel
theorem F_Mo_init_155 : fetch m_Mo_init 155 = some (.bipush 72) := by decide +kernel
theorem F_Mo_init_157 : fetch m_Mo_init 157 = some (.newarray .int) := by decide +kernel
theorem F_Mo_init_159 : fetch m_Mo_init 159 = some (.putfield 75) := by decide +kernel
theorem F_Mo_init_162 : fetch m_Mo_init 162 = some (.aload_n 0) := by decide +kernel
theorem F_Mo_init_163 : fetch m_Mo_init 163 = some (.bipush 72) := by decide +kernel
theorem F_Mo_init_165 : fetch m_Mo_init 165 = some (.newarray .long) := by decide +kernel
theorem F_Mo_init_167 : fetch m_Mo_init 167 = some (.putfield 78) := by decide +kernel
theorem F_Mo_init_170 : fetch m_Mo_init 170 = some (.aload_n 0) := by decide +kernel
theorem F_Mo_init_171 : fetch m_Mo_init 171 = some (.bipush 72) := by decide +kernel
theorem F_Mo_init_173 : fetch m_Mo_init 173 = some (.newarray .long) := by decide +kernel
theorem F_Mo_init_175 : fetch m_Mo_init 175 = some (.putfield 81) := by decide +kernel
theorem F_Mo_init_178 : fetch m_Mo_init 178 = some (.aload_n 0) := by decide +kernel
theorem F_Mo_init_179 : fetch m_Mo_init 179 = some (.bipush 24) := by decide +kernel
theorem F_Mo_init_181 : fetch m_Mo_init 181 = some (.newarray .int) := by decide +kernel
theorem F_Mo_init_183 : fetch m_Mo_init 183 = some (.putfield 84) := by decide +kernel
theorem F_Mo_init_186 : fetch m_Mo_init 186 = some (.aload_n 0) := by decide +kernel
theorem F_Mo_init_187 : fetch m_Mo_init 187 = some (.bipush 24) := by decide +kernel
theorem F_Mo_init_189 : fetch m_Mo_init 189 = some (.newarray .long) := by decide +kernel
theorem F_Mo_init_191 : fetch m_Mo_init 191 = some (.putfield 87) := by decide +kernel
theorem F_Mo_init_194 : fetch m_Mo_init 194 = some (.aload_n 0) := by decide +kernel
theorem F_Mo_init_195 : fetch m_Mo_init 195 = some (.bipush 24) := by decide +kernel
theorem F_Mo_init_197 : fetch m_Mo_init 197 = some (.newarray .long) := by decide +kernel
theorem F_Mo_init_199 : fetch m_Mo_init 199 = some (.putfield 90) := by decide +kernel
theorem F_Mo_init_202 : fetch m_Mo_init 202 = some (.aload_n 0) := by decide +kernel
theorem F_Mo_init_203 : fetch m_Mo_init 203 = some (.bipush 12) := by decide +kernel
theorem F_Mo_init_205 : fetch m_Mo_init 205 = some (.newarray .int) := by decide +kernel
theorem F_Mo_init_207 : fetch m_Mo_init 207 = some (.putfield 93) := by decide +kernel
theorem F_Mo_init_210 : fetch m_Mo_init 210 = some (.aload_n 0) := by decide +kernel
theorem F_Mo_init_211 : fetch m_Mo_init 211 = some (.bipush 12) := by decide +kernel
theorem F_Mo_init_213 : fetch m_Mo_init 213 = some (.newarray .long) := by decide +kernel
theorem F_Mo_init_215 : fetch m_Mo_init 215 = some (.putfield 96) := by decide +kernel
theorem F_Mo_init_218 : fetch m_Mo_init 218 = some (.aload_n 0) := by decide +kernel
theorem F_Mo_init_219 : fetch m_Mo_init 219 = some (.bipush 12) := by decide +kernel
theorem F_Mo_init_221 : fetch m_Mo_init 221 = some (.newarray .long) := by decide +kernel
theorem F_Mo_init_223 : fetch m_Mo_init 223 = some (.putfield 99) := by decide +kernel
theorem F_Mo_init_226 : fetch m_Mo_init 226 = some (.aload_n 0) := by decide +kernel
theorem F_Mo_init_227 : fetch m_Mo_init 227 = some (.bipush 12) := by decide +kernel
theorem F_Mo_init_229 : fetch m_Mo_init 229 = some (.newarray .long) := by decide +kernel
theorem F_Mo_init_231 : fetch m_Mo_init 231 = some (.putfield 102) := by decide +kernel
theorem F_Mo_init_234 : fetch m_Mo_init 234 = some (.aload_n 0) := by decide +kernel
theorem F_Mo_init_235 : fetch m_Mo_init 235 = some (.bipush 12) := by decide +kernel
theorem F_Mo_init_237 : fetch m_Mo_init 237 = some (.newarray .long) := by decide +kernel
theorem F_Mo_init_239 : fetch m_Mo_init 239 = some (.putfield 105) := by decide +kernel
theorem F_Mo_init_242 : fetch m_Mo_init 242 = some (.aload_n 0) := by decide +kernel
theorem F_Mo_init_243 : fetch m_Mo_init 243 = some (.bipush 24) := by decide +kernel
theorem F_Mo_init_245 : fetch m_Mo_init 245 = some (.newarray .int) := by decide +kernel
theorem F_Mo_init_247 : fetch m_Mo_init 247 = some (.putfield 108) := by decide +kernel
theorem F_Mo_init_250 : fetch m_Mo_init 250 = some (.aload_n 0) := by decide +kernel
theorem F_Mo_init_251 : fetch m_Mo_init 251 = some (.bipush 12) := by decide +kernel
theorem F_Mo_init_253 : fetch m_Mo_init 253 = some (.newarray .int) := by decide +kernel
theorem F_Mo_init_255 : fetch m_Mo_init 255 = some (.putfield 111) := by decide +kernel
theorem F_Mo_init_258 : fetch m_Mo_init 258 = some (.aload_n 0) := by decide +kernel
theorem F_Mo_init_259 : fetch m_Mo_init 259 = some (.bipush 24) := by decide +kernel
theorem F_Mo_init_261 : fetch m_Mo_init 261 = some (.newarray .int) := by decide +kernel
theorem F_Mo_init_263 : fetch m_Mo_init 263 = some (.putfield 114) := by decide +kernel
theorem F_Mo_init_266 : fetch m_Mo_init 266 = some (.aload_n 0) := by decide +kernel
theorem F_Mo_init_267 : fetch m_Mo_init 267 = some (.bipush 24) := by decide +kernel
theorem F_Mo_init_269 : fetch m_Mo_init 269 = some (.newarray .long) := by decide +kernel
theorem F_Mo_init_271 : fetch m_Mo_init 271 = some (.putfield 117) := by decide +kernel
theorem F_Mo_init_274 : fetch m_Mo_init 274 = some (.aload_n 0) := by decide +kernel
theorem F_Mo_init_275 : fetch m_Mo_init 275 = some (.bipush 16) := by decide +kernel
theorem F_Mo_init_277 : fetch m_Mo_init 277 = some (.newarray .boolean) := by decide +kernel
theorem F_Mo_init_279 : fetch m_Mo_init 279 = some (.putfield 120) := by decide +kernel
theorem F_Mo_init_282 : fetch m_Mo_init 282 = some (.aload_n 0) := by decide +kernel
theorem F_Mo_init_283 : fetch m_Mo_init 283 = some (.bipush 8) := by decide +kernel
theorem F_Mo_init_285 : fetch m_Mo_init 285 = some (.newarray .long) := by decide +kernel
theorem F_Mo_init_287 : fetch m_Mo_init 287 = some (.putfield 123) := by decide +kernel
theorem F_Mo_init_290 : fetch m_Mo_init 290 = some (.aload_n 0) := by decide +kernel
theorem F_Mo_init_291 : fetch m_Mo_init 291 = some (.bipush 8) := by decide +kernel
theorem F_Mo_init_293 : fetch m_Mo_init 293 = some (.newarray .long) := by decide +kernel
theorem F_Mo_init_295 : fetch m_Mo_init 295 = some (.putfield 126) := by decide +kernel
theorem F_Mo_init_298 : fetch m_Mo_init 298 = some (.aload_n 0) := by decide +kernel
theorem F_Mo_init_299 : fetch m_Mo_init 299 = some (.bipush 16) := by decide +kernel
theorem F_Mo_init_301 : fetch m_Mo_init 301 = some (.newarray .boolean) := by decide +kernel
theorem F_Mo_init_303 : fetch m_Mo_init 303 = some (.putfield 129) := by decide +kernel
theorem F_Mo_init_306 : fetch m_Mo_init 306 = some (.aload_n 0) := by decide +kernel
theorem F_Mo_init_307 : fetch m_Mo_init 307 = some (.bipush 8) := by decide +kernel
theorem F_Mo_init_309 : fetch m_Mo_init 309 = some (.newarray .long) := by decide +kernel
theorem F_Mo_init_311 : fetch m_Mo_init 311 = some (.putfield 132) := by decide +kernel
theorem F_Mo_init_314 : fetch m_Mo_init 314 = some (.aload_n 0) := by decide +kernel
theorem F_Mo_init_315 : fetch m_Mo_init 315 = some (.bipush 8) := by decide +kernel
theorem F_Mo_init_317 : fetch m_Mo_init 317 = some (.newarray .long) := by decide +kernel
theorem F_Mo_init_319 : fetch m_Mo_init 319 = some (.putfield 135) := by decide +kernel
theorem F_Mo_init_322 : fetch m_Mo_init 322 = some (.aload_n 0) := by decide +kernel
theorem F_Mo_init_323 : fetch m_Mo_init 323 = some (.iconst (-1)) := by decide +kernel
theorem F_Mo_init_324 : fetch m_Mo_init 324 = some (.putfield 138) := by decide +kernel
theorem F_Mo_init_327 : fetch m_Mo_init 327 = some (.aload_n 0) := by decide +kernel
theorem F_Mo_init_328 : fetch m_Mo_init 328 = some (.bipush 16) := by decide +kernel
theorem F_Mo_init_330 : fetch m_Mo_init 330 = some (.newarray .boolean) := by decide +kernel
theorem F_Mo_init_332 : fetch m_Mo_init 332 = some (.putfield 142) := by decide +kernel
theorem F_Mo_init_335 : fetch m_Mo_init 335 = some (.aload_n 0) := by decide +kernel
theorem F_Mo_init_336 : fetch m_Mo_init 336 = some (.bipush 8) := by decide +kernel
theorem F_Mo_init_338 : fetch m_Mo_init 338 = some (.newarray .long) := by decide +kernel
theorem F_Mo_init_340 : fetch m_Mo_init 340 = some (.putfield 145) := by decide +kernel
theorem F_Mo_init_343 : fetch m_Mo_init 343 = some (.aload_n 0) := by decide +kernel
theorem F_Mo_init_344 : fetch m_Mo_init 344 = some (.bipush 8) := by decide +kernel
theorem F_Mo_init_346 : fetch m_Mo_init 346 = some (.newarray .long) := by decide +kernel
theorem F_Mo_init_348 : fetch m_Mo_init 348 = some (.putfield 148) := by decide +kernel
theorem F_Mo_init_351 : fetch m_Mo_init 351 = some (.aload_n 0) := by decide +kernel
theorem F_Mo_init_352 : fetch m_Mo_init 352 = some (.bipush 24) := by decide +kernel
theorem F_Mo_init_354 : fetch m_Mo_init 354 = some (.newarray .long) := by decide +kernel
theorem F_Mo_init_356 : fetch m_Mo_init 356 = some (.putfield 151) := by decide +kernel
theorem F_Mo_init_359 : fetch m_Mo_init 359 = some (.aload_n 0) := by decide +kernel
theorem F_Mo_init_360 : fetch m_Mo_init 360 = some (.bipush 24) := by decide +kernel
theorem F_Mo_init_362 : fetch m_Mo_init 362 = some (.newarray .long) := by decide +kernel
theorem F_Mo_init_364 : fetch m_Mo_init 364 = some (.putfield 154) := by decide +kernel
theorem F_Mo_init_367 : fetch m_Mo_init 367 = some (.aload_n 0) := by decide +kernel
theorem F_Mo_init_368 : fetch m_Mo_init 368 = some (.bipush 24) := by decide +kernel
theorem F_Mo_init_370 : fetch m_Mo_init 370 = some (.newarray .boolean) := by decide +kernel
theorem F_Mo_init_372 : fetch m_Mo_init 372 = some (.putfield 157) := by decide +kernel
theorem F_Mo_init_375 : fetch m_Mo_init 375 = some (.aload_n 0) := by decide +kernel
theorem F_Mo_init_376 : fetch m_Mo_init 376 = some (.bipush 24) := by decide +kernel
theorem F_Mo_init_378 : fetch m_Mo_init 378 = some (.newarray .boolean) := by decide +kernel
theorem F_Mo_init_380 : fetch m_Mo_init 380 = some (.putfield 160) := by decide +kernel
theorem F_Mo_init_383 : fetch m_Mo_init 383 = some (.aload_n 0) := by decide +kernel
theorem F_Mo_init_384 : fetch m_Mo_init 384 = some (.bipush 12) := by decide +kernel
theorem F_Mo_init_386 : fetch m_Mo_init 386 = some (.newarray .long) := by decide +kernel
theorem F_Mo_init_388 : fetch m_Mo_init 388 = some (.putfield 163) := by decide +kernel
theorem F_Mo_init_391 : fetch m_Mo_init 391 = some (.aload_n 0) := by decide +kernel
theorem F_Mo_init_392 : fetch m_Mo_init 392 = some (.bipush 12) := by decide +kernel
theorem F_Mo_init_394 : fetch m_Mo_init 394 = some (.newarray .long) := by decide +kernel
theorem F_Mo_init_396 : fetch m_Mo_init 396 = some (.putfield 166) := by decide +kernel
theorem F_Mo_init_399 : fetch m_Mo_init 399 = some (.aload_n 0) := by decide +kernel
theorem F_Mo_init_400 : fetch m_Mo_init 400 = some (.bipush 12) := by decide +kernel
theorem F_Mo_init_402 : fetch m_Mo_init 402 = some (.newarray .long) := by decide +kernel
theorem F_Mo_init_404 : fetch m_Mo_init 404 = some (.putfield 169) := by decide +kernel
theorem F_Mo_init_407 : fetch m_Mo_init 407 = some (.aload_n 0) := by decide +kernel
theorem F_Mo_init_408 : fetch m_Mo_init 408 = some (.bipush 12) := by decide +kernel
theorem F_Mo_init_410 : fetch m_Mo_init 410 = some (.newarray .long) := by decide +kernel
theorem F_Mo_init_412 : fetch m_Mo_init 412 = some (.putfield 172) := by decide +kernel
theorem F_Mo_init_415 : fetch m_Mo_init 415 = some (.aload_n 0) := by decide +kernel
theorem F_Mo_init_416 : fetch m_Mo_init 416 = some (.bipush 6) := by decide +kernel
theorem F_Mo_init_418 : fetch m_Mo_init 418 = some (.newarray .int) := by decide +kernel
theorem F_Mo_init_420 : fetch m_Mo_init 420 = some (.putfield 175) := by decide +kernel
theorem F_Mo_init_423 : fetch m_Mo_init 423 = some (.iconst 0) := by decide +kernel
theorem F_Mo_init_424 : fetch m_Mo_init 424 = some (.istore_n 1) := by decide +kernel
theorem F_Mo_init_425 : fetch m_Mo_init 425 = some (.iload_n 1) := by decide +kernel
theorem F_Mo_init_426 : fetch m_Mo_init 426 = some (.bipush 8) := by decide +kernel
theorem F_Mo_init_428 : fetch m_Mo_init 428 = some (.if_icmp .ge 30) := by decide +kernel
theorem F_Mo_init_431 : fetch m_Mo_init 431 = some (.aload_n 0) := by decide +kernel
theorem F_Mo_init_432 : fetch m_Mo_init 432 = some (.getfield 32) := by decide +kernel
theorem F_Mo_init_435 : fetch m_Mo_init 435 = some (.iload_n 1) := by decide +kernel
theorem F_Mo_init_436 : fetch m_Mo_init 436 = some (.lconst 1) := by decide +kernel
theorem F_Mo_init_437 : fetch m_Mo_init 437 = some (.lastore) := by decide +kernel
theorem F_Mo_init_438 : fetch m_Mo_init 438 = some (.aload_n 0) := by decide +kernel
theorem F_Mo_init_439 : fetch m_Mo_init 439 = some (.getfield 39) := by decide +kernel
theorem F_Mo_init_442 : fetch m_Mo_init 442 = some (.iload_n 1) := by decide +kernel
theorem F_Mo_init_443 : fetch m_Mo_init 443 = some (.iconst (-1)) := by decide +kernel
theorem F_Mo_init_444 : fetch m_Mo_init 444 = some (.iastore) := by decide +kernel
theorem F_Mo_init_445 : fetch m_Mo_init 445 = some (.aload_n 0) := by decide +kernel
theorem F_Mo_init_446 : fetch m_Mo_init 446 = some (.getfield 45) := by decide +kernel
theorem F_Mo_init_449 : fetch m_Mo_init 449 = some (.iload_n 1) := by decide +kernel
theorem F_Mo_init_450 : fetch m_Mo_init 450 = some (.lconst 1) := by decide +kernel
theorem F_Mo_init_451 : fetch m_Mo_init 451 = some (.lastore) := by decide +kernel
theorem F_Mo_init_452 : fetch m_Mo_init 452 = some (.iinc 1 1) := by decide +kernel
theorem F_Mo_init_455 : fetch m_Mo_init 455 = some (.goto (-30)) := by decide +kernel
theorem F_Mo_init_458 : fetch m_Mo_init 458 = some (.iconst 0) := by decide +kernel
theorem F_Mo_init_459 : fetch m_Mo_init 459 = some (.istore_n 1) := by decide +kernel
theorem F_Mo_init_460 : fetch m_Mo_init 460 = some (.iload_n 1) := by decide +kernel
theorem F_Mo_init_461 : fetch m_Mo_init 461 = some (.bipush 16) := by decide +kernel
theorem F_Mo_init_463 : fetch m_Mo_init 463 = some (.if_icmp .ge 16) := by decide +kernel
theorem F_Mo_init_466 : fetch m_Mo_init 466 = some (.aload_n 0) := by decide +kernel
theorem F_Mo_init_467 : fetch m_Mo_init 467 = some (.getfield 35) := by decide +kernel
theorem F_Mo_init_470 : fetch m_Mo_init 470 = some (.iload_n 1) := by decide +kernel
theorem F_Mo_init_471 : fetch m_Mo_init 471 = some (.iconst (-1)) := by decide +kernel
theorem F_Mo_init_472 : fetch m_Mo_init 472 = some (.iastore) := by decide +kernel
theorem F_Mo_init_473 : fetch m_Mo_init 473 = some (.iinc 1 1) := by decide +kernel
theorem F_Mo_init_476 : fetch m_Mo_init 476 = some (.goto (-16)) := by decide +kernel
theorem F_Mo_init_479 : fetch m_Mo_init 479 = some (.return_) := by decide +kernel
theorem F_Mo_thrown_0 : fetch m_Mo_thrown 0 = some (.aload_n 0) := by decide +kernel
theorem F_Mo_thrown_1 : fetch m_Mo_thrown 1 = some (.getfield 178) := by decide +kernel
theorem F_Mo_thrown_4 : fetch m_Mo_thrown 4 = some (.ireturn) := by decide +kernel
theorem F_Mo_amount_0 : fetch m_Mo_amount 0 = some (.aload_n 0) := by decide +kernel
theorem F_Mo_amount_1 : fetch m_Mo_amount 1 = some (.iload_n 1) := by decide +kernel
theorem F_Mo_amount_2 : fetch m_Mo_amount 2 = some (.iload_n 2) := by decide +kernel
theorem F_Mo_amount_3 : fetch m_Mo_amount 3 = some (.invokestatic 204) := by decide +kernel
theorem F_Mo_amount_6 : fetch m_Mo_amount 6 = some (.ifCond .eq 7) := by decide +kernel
theorem F_Mo_amount_9 : fetch m_Mo_amount 9 = some (.iconst 0) := by decide +kernel
theorem F_Mo_amount_10 : fetch m_Mo_amount 10 = some (.goto 4) := by decide +kernel
theorem F_Mo_amount_13 : fetch m_Mo_amount 13 = some (.iconst 1) := by decide +kernel
theorem F_Mo_amount_14 : fetch m_Mo_amount 14 = some (.putfield 178) := by decide +kernel
theorem F_Mo_amount_17 : fetch m_Mo_amount 17 = some (.aload_n 0) := by decide +kernel
theorem F_Mo_amount_18 : fetch m_Mo_amount 18 = some (.getfield 178) := by decide +kernel
theorem F_Mo_amount_21 : fetch m_Mo_amount 21 = some (.ifCond .le 4) := by decide +kernel
theorem F_Mo_amount_24 : fetch m_Mo_amount 24 = some (.return_) := by decide +kernel
theorem F_Mo_amount_25 : fetch m_Mo_amount 25 = some (.aload_n 0) := by decide +kernel
theorem F_Mo_amount_26 : fetch m_Mo_amount 26 = some (.iload_n 1) := by decide +kernel
theorem F_Mo_amount_27 : fetch m_Mo_amount 27 = some (.i2l) := by decide +kernel
theorem F_Mo_amount_28 : fetch m_Mo_amount 28 = some (.iload_n 2) := by decide +kernel
theorem F_Mo_amount_29 : fetch m_Mo_amount 29 = some (.i2l) := by decide +kernel
theorem F_Mo_amount_30 : fetch m_Mo_amount 30 = some (.invokevirtual 208) := by decide +kernel
theorem F_Mo_amount_33 : fetch m_Mo_amount 33 = some (.aload_n 0) := by decide +kernel
theorem F_Mo_amount_34 : fetch m_Mo_amount 34 = some (.aload_n 0) := by decide +kernel
theorem F_Mo_amount_35 : fetch m_Mo_amount 35 = some (.getfield 189) := by decide +kernel
theorem F_Mo_amount_38 : fetch m_Mo_amount 38 = some (.putfield 212) := by decide +kernel
theorem F_Mo_amount_41 : fetch m_Mo_amount 41 = some (.aload_n 0) := by decide +kernel
theorem F_Mo_amount_42 : fetch m_Mo_amount 42 = some (.aload_n 0) := by decide +kernel
theorem F_Mo_amount_43 : fetch m_Mo_amount 43 = some (.getfield 192) := by decide +kernel
theorem F_Mo_amount_46 : fetch m_Mo_amount 46 = some (.putfield 7) := by decide +kernel
theorem F_Mo_amount_49 : fetch m_Mo_amount 49 = some (.return_) := by decide +kernel
theorem F_Mo_isFraction_0 : fetch m_Mo_isFraction 0 = some (.iload_n 0) := by decide +kernel
theorem F_Mo_isFraction_1 : fetch m_Mo_isFraction 1 = some (.ldc 198) := by decide +kernel
theorem F_Mo_isFraction_3 : fetch m_Mo_isFraction 3 = some (.ldc 199) := by decide +kernel
theorem F_Mo_isFraction_5 : fetch m_Mo_isFraction 5 = some (.invokestatic 200) := by decide +kernel
theorem F_Mo_isFraction_8 : fetch m_Mo_isFraction 8 = some (.ifCond .eq 18) := by decide +kernel
theorem F_Mo_isFraction_11 : fetch m_Mo_isFraction 11 = some (.iload_n 1) := by decide +kernel
theorem F_Mo_isFraction_12 : fetch m_Mo_isFraction 12 = some (.iconst 1) := by decide +kernel
theorem F_Mo_isFraction_13 : fetch m_Mo_isFraction 13 = some (.sipush 1000) := by decide +kernel
theorem F_Mo_isFraction_16 : fetch m_Mo_isFraction 16 = some (.invokestatic 200) := by decide +kernel
theorem F_Mo_isFraction_19 : fetch m_Mo_isFraction 19 = some (.ifCond .eq 7) := by decide +kernel
theorem F_Mo_isFraction_22 : fetch m_Mo_isFraction 22 = some (.iconst 1) := by decide +kernel
theorem F_Mo_isFraction_23 : fetch m_Mo_isFraction 23 = some (.goto 4) := by decide +kernel
theorem F_Mo_isFraction_26 : fetch m_Mo_isFraction 26 = some (.iconst 0) := by decide +kernel
theorem F_Mo_isFraction_27 : fetch m_Mo_isFraction 27 = some (.ireturn) := by decide +kernel
theorem F_Mo_in_0 : fetch m_Mo_in 0 = some (.iload_n 0) := by decide +kernel
theorem F_Mo_in_1 : fetch m_Mo_in 1 = some (.iload_n 1) := by decide +kernel
theorem F_Mo_in_2 : fetch m_Mo_in 2 = some (.if_icmp .lt 12) := by decide +kernel
theorem F_Mo_in_5 : fetch m_Mo_in 5 = some (.iload_n 0) := by decide +kernel
theorem F_Mo_in_6 : fetch m_Mo_in 6 = some (.iload_n 2) := by decide +kernel
theorem F_Mo_in_7 : fetch m_Mo_in 7 = some (.if_icmp .gt 7) := by decide +kernel
theorem F_Mo_in_10 : fetch m_Mo_in 10 = some (.iconst 1) := by decide +kernel
theorem F_Mo_in_11 : fetch m_Mo_in 11 = some (.goto 4) := by decide +kernel
theorem F_Mo_in_14 : fetch m_Mo_in 14 = some (.iconst 0) := by decide +kernel
theorem F_Mo_in_15 : fetch m_Mo_in 15 = some (.ireturn) := by decide +kernel
theorem F_Mo_out_0 : fetch m_Mo_out 0 = some (.lload_n 1) := by decide +kernel
theorem F_Mo_out_1 : fetch m_Mo_out 1 = some (.lload_n 3) := by decide +kernel
theorem F_Mo_out_2 : fetch m_Mo_out 2 = some (.invokestatic 185) := by decide +kernel
theorem F_Mo_out_5 : fetch m_Mo_out 5 = some (.lstore 5) := by decide +kernel
theorem F_Mo_out_7 : fetch m_Mo_out 7 = some (.aload_n 0) := by decide +kernel
theorem F_Mo_out_8 : fetch m_Mo_out 8 = some (.lload_n 1) := by decide +kernel
theorem F_Mo_out_9 : fetch m_Mo_out 9 = some (.lload 5) := by decide +kernel
theorem F_Mo_out_11 : fetch m_Mo_out 11 = some (.ldiv) := by decide +kernel
theorem F_Mo_out_12 : fetch m_Mo_out 12 = some (.putfield 189) := by decide +kernel
theorem F_Mo_out_15 : fetch m_Mo_out 15 = some (.aload_n 0) := by decide +kernel
theorem F_Mo_out_16 : fetch m_Mo_out 16 = some (.lload_n 3) := by decide +kernel
theorem F_Mo_out_17 : fetch m_Mo_out 17 = some (.lload 5) := by decide +kernel
theorem F_Mo_out_19 : fetch m_Mo_out 19 = some (.ldiv) := by decide +kernel
theorem F_Mo_out_20 : fetch m_Mo_out 20 = some (.putfield 192) := by decide +kernel
theorem F_Mo_out_23 : fetch m_Mo_out 23 = some (.return_) := by decide +kernel
theorem F_Mo_common_0 : fetch m_Mo_common 0 = some (.lload_n 0) := by decide +kernel
theorem F_Mo_common_1 : fetch m_Mo_common 1 = some (.invokestatic 181) := by decide +kernel
theorem F_Mo_common_4 : fetch m_Mo_common 4 = some (.lstore 4) := by decide +kernel
theorem F_Mo_common_6 : fetch m_Mo_common 6 = some (.lload_n 2) := by decide +kernel
theorem F_Mo_common_7 : fetch m_Mo_common 7 = some (.invokestatic 181) := by decide +kernel
theorem F_Mo_common_10 : fetch m_Mo_common 10 = some (.lstore 6) := by decide +kernel
theorem F_Mo_common_12 : fetch m_Mo_common 12 = some (.lload 6) := by decide +kernel
theorem F_Mo_common_14 : fetch m_Mo_common 14 = some (.lconst 0) := by decide +kernel
theorem F_Mo_common_15 : fetch m_Mo_common 15 = some (.lcmp) := by decide +kernel
theorem F_Mo_common_16 : fetch m_Mo_common 16 = some (.ifCond .le 21) := by decide +kernel
theorem F_Mo_common_19 : fetch m_Mo_common 19 = some (.lload 4) := by decide +kernel
theorem F_Mo_common_21 : fetch m_Mo_common 21 = some (.lload 6) := by decide +kernel
theorem F_Mo_common_23 : fetch m_Mo_common 23 = some (.lrem) := by decide +kernel
theorem F_Mo_common_24 : fetch m_Mo_common 24 = some (.lstore 8) := by decide +kernel
theorem F_Mo_common_26 : fetch m_Mo_common 26 = some (.lload 6) := by decide +kernel
theorem F_Mo_common_28 : fetch m_Mo_common 28 = some (.lstore 4) := by decide +kernel
theorem F_Mo_common_30 : fetch m_Mo_common 30 = some (.lload 8) := by decide +kernel
theorem F_Mo_common_32 : fetch m_Mo_common 32 = some (.lstore 6) := by decide +kernel
theorem F_Mo_common_34 : fetch m_Mo_common 34 = some (.goto (-22)) := by decide +kernel
theorem F_Mo_common_37 : fetch m_Mo_common 37 = some (.lload 4) := by decide +kernel
theorem F_Mo_common_39 : fetch m_Mo_common 39 = some (.lreturn) := by decide +kernel
theorem F_Mo_size_0 : fetch m_Mo_size 0 = some (.lload_n 0) := by decide +kernel
theorem F_Mo_size_1 : fetch m_Mo_size 1 = some (.lconst 0) := by decide +kernel
theorem F_Mo_size_2 : fetch m_Mo_size 2 = some (.lcmp) := by decide +kernel
theorem F_Mo_size_3 : fetch m_Mo_size 3 = some (.ifCond .ge 8) := by decide +kernel
theorem F_Mo_size_6 : fetch m_Mo_size 6 = some (.lload_n 0) := by decide +kernel
theorem F_Mo_size_7 : fetch m_Mo_size 7 = some (.lneg) := by decide +kernel
theorem F_Mo_size_8 : fetch m_Mo_size 8 = some (.goto 4) := by decide +kernel
theorem F_Mo_size_11 : fetch m_Mo_size 11 = some (.lload_n 0) := by decide +kernel
theorem F_Mo_size_12 : fetch m_Mo_size 12 = some (.lreturn) := by decide +kernel
theorem F_Mo_moment_0 : fetch m_Mo_moment 0 = some (.aload_n 0) := by decide +kernel
theorem F_Mo_moment_1 : fetch m_Mo_moment 1 = some (.iload_n 1) := by decide +kernel
theorem F_Mo_moment_2 : fetch m_Mo_moment 2 = some (.iload_n 2) := by decide +kernel
theorem F_Mo_moment_3 : fetch m_Mo_moment 3 = some (.invokestatic 204) := by decide +kernel
theorem F_Mo_moment_6 : fetch m_Mo_moment 6 = some (.ifCond .eq 7) := by decide +kernel
theorem F_Mo_moment_9 : fetch m_Mo_moment 9 = some (.iconst 0) := by decide +kernel
theorem F_Mo_moment_10 : fetch m_Mo_moment 10 = some (.goto 4) := by decide +kernel
theorem F_Mo_moment_13 : fetch m_Mo_moment 13 = some (.iconst 1) := by decide +kernel
theorem F_Mo_moment_14 : fetch m_Mo_moment 14 = some (.putfield 178) := by decide +kernel
theorem F_Mo_moment_17 : fetch m_Mo_moment 17 = some (.aload_n 0) := by decide +kernel
theorem F_Mo_moment_18 : fetch m_Mo_moment 18 = some (.getfield 178) := by decide +kernel
theorem F_Mo_moment_21 : fetch m_Mo_moment 21 = some (.ifCond .le 4) := by decide +kernel
theorem F_Mo_moment_24 : fetch m_Mo_moment 24 = some (.return_) := by decide +kernel
theorem F_Mo_moment_25 : fetch m_Mo_moment 25 = some (.aload_n 0) := by decide +kernel
theorem F_Mo_moment_26 : fetch m_Mo_moment 26 = some (.iload_n 1) := by decide +kernel
theorem F_Mo_moment_27 : fetch m_Mo_moment 27 = some (.i2l) := by decide +kernel
theorem F_Mo_moment_28 : fetch m_Mo_moment 28 = some (.iload_n 2) := by decide +kernel
theorem F_Mo_moment_29 : fetch m_Mo_moment 29 = some (.i2l) := by decide +kernel
theorem F_Mo_moment_30 : fetch m_Mo_moment 30 = some (.invokevirtual 208) := by decide +kernel
theorem F_Mo_moment_33 : fetch m_Mo_moment 33 = some (.aload_n 0) := by decide +kernel
theorem F_Mo_moment_34 : fetch m_Mo_moment 34 = some (.aload_n 0) := by decide +kernel
theorem F_Mo_moment_35 : fetch m_Mo_moment 35 = some (.getfield 189) := by decide +kernel
theorem F_Mo_moment_38 : fetch m_Mo_moment 38 = some (.putfield 215) := by decide +kernel
theorem F_Mo_moment_41 : fetch m_Mo_moment 41 = some (.aload_n 0) := by decide +kernel
theorem F_Mo_moment_42 : fetch m_Mo_moment 42 = some (.aload_n 0) := by decide +kernel
theorem F_Mo_moment_43 : fetch m_Mo_moment 43 = some (.getfield 192) := by decide +kernel
theorem F_Mo_moment_46 : fetch m_Mo_moment 46 = some (.putfield 13) := by decide +kernel
theorem F_Mo_moment_49 : fetch m_Mo_moment 49 = some (.return_) := by decide +kernel
theorem F_Mo_epsilon_0 : fetch m_Mo_epsilon 0 = some (.aload_n 0) := by decide +kernel
theorem F_Mo_epsilon_1 : fetch m_Mo_epsilon 1 = some (.aload_n 0) := by decide +kernel
theorem F_Mo_epsilon_2 : fetch m_Mo_epsilon 2 = some (.getfield 212) := by decide +kernel
theorem F_Mo_epsilon_5 : fetch m_Mo_epsilon 5 = some (.lconst 0) := by decide +kernel
theorem F_Mo_epsilon_6 : fetch m_Mo_epsilon 6 = some (.lcmp) := by decide +kernel
theorem F_Mo_epsilon_7 : fetch m_Mo_epsilon 7 = some (.ifCond .le 7) := by decide +kernel
theorem F_Mo_epsilon_10 : fetch m_Mo_epsilon 10 = some (.iconst 0) := by decide +kernel
theorem F_Mo_epsilon_11 : fetch m_Mo_epsilon 11 = some (.goto 4) := by decide +kernel
theorem F_Mo_epsilon_14 : fetch m_Mo_epsilon 14 = some (.iconst 1) := by decide +kernel
theorem F_Mo_epsilon_15 : fetch m_Mo_epsilon 15 = some (.putfield 178) := by decide +kernel
theorem F_Mo_epsilon_18 : fetch m_Mo_epsilon 18 = some (.aload_n 0) := by decide +kernel
theorem F_Mo_epsilon_19 : fetch m_Mo_epsilon 19 = some (.getfield 178) := by decide +kernel
theorem F_Mo_epsilon_22 : fetch m_Mo_epsilon 22 = some (.ifCond .le 4) := by decide +kernel
theorem F_Mo_epsilon_25 : fetch m_Mo_epsilon 25 = some (.return_) := by decide +kernel
theorem F_Mo_epsilon_26 : fetch m_Mo_epsilon 26 = some (.aload_n 0) := by decide +kernel
theorem F_Mo_epsilon_27 : fetch m_Mo_epsilon 27 = some (.aload_n 0) := by decide +kernel
theorem F_Mo_epsilon_28 : fetch m_Mo_epsilon 28 = some (.getfield 212) := by decide +kernel
theorem F_Mo_epsilon_31 : fetch m_Mo_epsilon 31 = some (.putfield 16) := by decide +kernel
theorem F_Mo_epsilon_34 : fetch m_Mo_epsilon 34 = some (.aload_n 0) := by decide +kernel
theorem F_Mo_epsilon_35 : fetch m_Mo_epsilon 35 = some (.aload_n 0) := by decide +kernel
theorem F_Mo_epsilon_36 : fetch m_Mo_epsilon 36 = some (.getfield 7) := by decide +kernel
theorem F_Mo_epsilon_39 : fetch m_Mo_epsilon 39 = some (.putfield 21) := by decide +kernel
theorem F_Mo_epsilon_42 : fetch m_Mo_epsilon 42 = some (.return_) := by decide +kernel
theorem F_Mo_fact_0 : fetch m_Mo_fact 0 = some (.aload_n 0) := by decide +kernel
theorem F_Mo_fact_1 : fetch m_Mo_fact 1 = some (.iload_n 1) := by decide +kernel
theorem F_Mo_fact_2 : fetch m_Mo_fact 2 = some (.invokestatic 221) := by decide +kernel
theorem F_Mo_fact_5 : fetch m_Mo_fact 5 = some (.ifCond .eq 7) := by decide +kernel
theorem F_Mo_fact_8 : fetch m_Mo_fact 8 = some (.iconst 0) := by decide +kernel
theorem F_Mo_fact_9 : fetch m_Mo_fact 9 = some (.goto 4) := by decide +kernel
theorem F_Mo_fact_12 : fetch m_Mo_fact 12 = some (.iconst 1) := by decide +kernel
theorem F_Mo_fact_13 : fetch m_Mo_fact 13 = some (.putfield 178) := by decide +kernel
theorem F_Mo_fact_16 : fetch m_Mo_fact 16 = some (.aload_n 0) := by decide +kernel
theorem F_Mo_fact_17 : fetch m_Mo_fact 17 = some (.getfield 178) := by decide +kernel
theorem F_Mo_fact_20 : fetch m_Mo_fact 20 = some (.ifCond .ne 10) := by decide +kernel
theorem F_Mo_fact_23 : fetch m_Mo_fact 23 = some (.aload_n 0) := by decide +kernel
theorem F_Mo_fact_24 : fetch m_Mo_fact 24 = some (.getfield 24) := by decide +kernel
theorem F_Mo_fact_27 : fetch m_Mo_fact 27 = some (.iload_n 1) := by decide +kernel
theorem F_Mo_fact_28 : fetch m_Mo_fact 28 = some (.iload_n 2) := by decide +kernel
theorem F_Mo_fact_29 : fetch m_Mo_fact 29 = some (.bastore) := by decide +kernel
theorem F_Mo_fact_30 : fetch m_Mo_fact 30 = some (.return_) := by decide +kernel
theorem F_Mo_isFact_0 : fetch m_Mo_isFact 0 = some (.iload_n 0) := by decide +kernel
theorem F_Mo_isFact_1 : fetch m_Mo_isFact 1 = some (.iconst 0) := by decide +kernel
theorem F_Mo_isFact_2 : fetch m_Mo_isFact 2 = some (.bipush 15) := by decide +kernel
theorem F_Mo_isFact_4 : fetch m_Mo_isFact 4 = some (.invokestatic 200) := by decide +kernel
theorem F_Mo_isFact_7 : fetch m_Mo_isFact 7 = some (.ireturn) := by decide +kernel
theorem F_Mo_number_0 : fetch m_Mo_number 0 = some (.aload_n 0) := by decide +kernel
theorem F_Mo_number_1 : fetch m_Mo_number 1 = some (.iload_n 1) := by decide +kernel
theorem F_Mo_number_2 : fetch m_Mo_number 2 = some (.invokestatic 225) := by decide +kernel
theorem F_Mo_number_5 : fetch m_Mo_number 5 = some (.ifCond .eq 7) := by decide +kernel
theorem F_Mo_number_8 : fetch m_Mo_number 8 = some (.iconst 0) := by decide +kernel
theorem F_Mo_number_9 : fetch m_Mo_number 9 = some (.goto 4) := by decide +kernel
theorem F_Mo_number_12 : fetch m_Mo_number 12 = some (.iconst 1) := by decide +kernel
theorem F_Mo_number_13 : fetch m_Mo_number 13 = some (.putfield 178) := by decide +kernel
theorem F_Mo_number_16 : fetch m_Mo_number 16 = some (.aload_n 0) := by decide +kernel
theorem F_Mo_number_17 : fetch m_Mo_number 17 = some (.getfield 178) := by decide +kernel
theorem F_Mo_number_20 : fetch m_Mo_number 20 = some (.ifCond .le 4) := by decide +kernel
theorem F_Mo_number_23 : fetch m_Mo_number 23 = some (.return_) := by decide +kernel
theorem F_Mo_number_24 : fetch m_Mo_number 24 = some (.aload_n 0) := by decide +kernel
theorem F_Mo_number_25 : fetch m_Mo_number 25 = some (.getfield 28) := by decide +kernel
theorem F_Mo_number_28 : fetch m_Mo_number 28 = some (.iload_n 1) := by decide +kernel
theorem F_Mo_number_29 : fetch m_Mo_number 29 = some (.aload_n 0) := by decide +kernel
theorem F_Mo_number_30 : fetch m_Mo_number 30 = some (.getfield 212) := by decide +kernel
theorem F_Mo_number_33 : fetch m_Mo_number 33 = some (.lastore) := by decide +kernel
theorem F_Mo_number_34 : fetch m_Mo_number 34 = some (.aload_n 0) := by decide +kernel
theorem F_Mo_number_35 : fetch m_Mo_number 35 = some (.getfield 32) := by decide +kernel
theorem F_Mo_number_38 : fetch m_Mo_number 38 = some (.iload_n 1) := by decide +kernel
theorem F_Mo_number_39 : fetch m_Mo_number 39 = some (.aload_n 0) := by decide +kernel
theorem F_Mo_number_40 : fetch m_Mo_number 40 = some (.getfield 7) := by decide +kernel
theorem F_Mo_number_43 : fetch m_Mo_number 43 = some (.lastore) := by decide +kernel
theorem F_Mo_number_44 : fetch m_Mo_number 44 = some (.return_) := by decide +kernel
theorem F_Mo_isNumber_0 : fetch m_Mo_isNumber 0 = some (.iload_n 0) := by decide +kernel
theorem F_Mo_isNumber_1 : fetch m_Mo_isNumber 1 = some (.iconst 0) := by decide +kernel
theorem F_Mo_isNumber_2 : fetch m_Mo_isNumber 2 = some (.bipush 7) := by decide +kernel
theorem F_Mo_isNumber_4 : fetch m_Mo_isNumber 4 = some (.invokestatic 200) := by decide +kernel
theorem F_Mo_isNumber_7 : fetch m_Mo_isNumber 7 = some (.ireturn) := by decide +kernel
theorem F_Mo_wish_0 : fetch m_Mo_wish 0 = some (.aload_n 0) := by decide +kernel
theorem F_Mo_wish_1 : fetch m_Mo_wish 1 = some (.iload_n 1) := by decide +kernel
theorem F_Mo_wish_2 : fetch m_Mo_wish 2 = some (.invokestatic 221) := by decide +kernel
theorem F_Mo_wish_5 : fetch m_Mo_wish 5 = some (.ifCond .ne 7) := by decide +kernel
theorem F_Mo_wish_8 : fetch m_Mo_wish 8 = some (.iconst 1) := by decide +kernel
theorem F_Mo_wish_9 : fetch m_Mo_wish 9 = some (.goto 17) := by decide +kernel
theorem F_Mo_wish_12 : fetch m_Mo_wish 12 = some (.iload_n 2) := by decide +kernel
theorem F_Mo_wish_13 : fetch m_Mo_wish 13 = some (.iconst (-1)) := by decide +kernel
theorem F_Mo_wish_14 : fetch m_Mo_wish 14 = some (.iconst 1) := by decide +kernel
theorem F_Mo_wish_15 : fetch m_Mo_wish 15 = some (.invokestatic 200) := by decide +kernel
theorem F_Mo_wish_18 : fetch m_Mo_wish 18 = some (.ifCond .ne 7) := by decide +kernel
theorem F_Mo_wish_21 : fetch m_Mo_wish 21 = some (.iconst 2) := by decide +kernel
theorem F_Mo_wish_22 : fetch m_Mo_wish 22 = some (.goto 4) := by decide +kernel
theorem F_Mo_wish_25 : fetch m_Mo_wish 25 = some (.iconst 0) := by decide +kernel
theorem F_Mo_wish_26 : fetch m_Mo_wish 26 = some (.putfield 178) := by decide +kernel
theorem F_Mo_wish_29 : fetch m_Mo_wish 29 = some (.aload_n 0) := by decide +kernel
theorem F_Mo_wish_30 : fetch m_Mo_wish 30 = some (.getfield 178) := by decide +kernel
theorem F_Mo_wish_33 : fetch m_Mo_wish 33 = some (.ifCond .ne 10) := by decide +kernel
theorem F_Mo_wish_36 : fetch m_Mo_wish 36 = some (.aload_n 0) := by decide +kernel
theorem F_Mo_wish_37 : fetch m_Mo_wish 37 = some (.getfield 35) := by decide +kernel
theorem F_Mo_wish_40 : fetch m_Mo_wish 40 = some (.iload_n 1) := by decide +kernel
theorem F_Mo_wish_41 : fetch m_Mo_wish 41 = some (.iload_n 2) := by decide +kernel
theorem F_Mo_wish_42 : fetch m_Mo_wish 42 = some (.iastore) := by decide +kernel
theorem F_Mo_wish_43 : fetch m_Mo_wish 43 = some (.return_) := by decide +kernel
theorem F_Mo_want_0 : fetch m_Mo_want 0 = some (.aload_n 0) := by decide +kernel
theorem F_Mo_want_1 : fetch m_Mo_want 1 = some (.iload_n 1) := by decide +kernel
theorem F_Mo_want_2 : fetch m_Mo_want 2 = some (.invokestatic 225) := by decide +kernel
theorem F_Mo_want_5 : fetch m_Mo_want 5 = some (.ifCond .ne 7) := by decide +kernel
theorem F_Mo_want_8 : fetch m_Mo_want 8 = some (.iconst 1) := by decide +kernel
theorem F_Mo_want_9 : fetch m_Mo_want 9 = some (.goto 17) := by decide +kernel
theorem F_Mo_want_12 : fetch m_Mo_want 12 = some (.iload_n 2) := by decide +kernel
theorem F_Mo_want_13 : fetch m_Mo_want 13 = some (.iconst (-1)) := by decide +kernel
theorem F_Mo_want_14 : fetch m_Mo_want 14 = some (.iconst 4) := by decide +kernel
theorem F_Mo_want_15 : fetch m_Mo_want 15 = some (.invokestatic 200) := by decide +kernel
theorem F_Mo_want_18 : fetch m_Mo_want 18 = some (.ifCond .ne 7) := by decide +kernel
theorem F_Mo_want_21 : fetch m_Mo_want 21 = some (.iconst 2) := by decide +kernel
theorem F_Mo_want_22 : fetch m_Mo_want 22 = some (.goto 4) := by decide +kernel
theorem F_Mo_want_25 : fetch m_Mo_want 25 = some (.iconst 0) := by decide +kernel
theorem F_Mo_want_26 : fetch m_Mo_want 26 = some (.putfield 178) := by decide +kernel
theorem F_Mo_want_29 : fetch m_Mo_want 29 = some (.aload_n 0) := by decide +kernel
theorem F_Mo_want_30 : fetch m_Mo_want 30 = some (.getfield 178) := by decide +kernel
theorem F_Mo_want_33 : fetch m_Mo_want 33 = some (.ifCond .le 4) := by decide +kernel
theorem F_Mo_want_36 : fetch m_Mo_want 36 = some (.return_) := by decide +kernel
theorem F_Mo_want_37 : fetch m_Mo_want 37 = some (.aload_n 0) := by decide +kernel
theorem F_Mo_want_38 : fetch m_Mo_want 38 = some (.getfield 39) := by decide +kernel
theorem F_Mo_want_41 : fetch m_Mo_want 41 = some (.iload_n 1) := by decide +kernel
theorem F_Mo_want_42 : fetch m_Mo_want 42 = some (.iload_n 2) := by decide +kernel
theorem F_Mo_want_43 : fetch m_Mo_want 43 = some (.iastore) := by decide +kernel
theorem F_Mo_want_44 : fetch m_Mo_want 44 = some (.aload_n 0) := by decide +kernel
theorem F_Mo_want_45 : fetch m_Mo_want 45 = some (.getfield 42) := by decide +kernel
theorem F_Mo_want_48 : fetch m_Mo_want 48 = some (.iload_n 1) := by decide +kernel
theorem F_Mo_want_49 : fetch m_Mo_want 49 = some (.aload_n 0) := by decide +kernel
theorem F_Mo_want_50 : fetch m_Mo_want 50 = some (.getfield 212) := by decide +kernel
theorem F_Mo_want_53 : fetch m_Mo_want 53 = some (.lastore) := by decide +kernel
theorem F_Mo_want_54 : fetch m_Mo_want 54 = some (.aload_n 0) := by decide +kernel
theorem F_Mo_want_55 : fetch m_Mo_want 55 = some (.getfield 45) := by decide +kernel
theorem F_Mo_want_58 : fetch m_Mo_want 58 = some (.iload_n 1) := by decide +kernel
theorem F_Mo_want_59 : fetch m_Mo_want 59 = some (.aload_n 0) := by decide +kernel
theorem F_Mo_want_60 : fetch m_Mo_want 60 = some (.getfield 7) := by decide +kernel
theorem F_Mo_want_63 : fetch m_Mo_want 63 = some (.lastore) := by decide +kernel
theorem F_Mo_want_64 : fetch m_Mo_want 64 = some (.return_) := by decide +kernel
theorem F_Mo_action_0 : fetch m_Mo_action 0 = some (.aload_n 0) := by decide +kernel
theorem F_Mo_action_1 : fetch m_Mo_action 1 = some (.aload_n 0) := by decide +kernel
theorem F_Mo_action_2 : fetch m_Mo_action 2 = some (.getfield 218) := by decide +kernel
theorem F_Mo_action_5 : fetch m_Mo_action 5 = some (.bipush 12) := by decide +kernel
theorem F_Mo_action_7 : fetch m_Mo_action 7 = some (.if_icmp .ne 7) := by decide +kernel
theorem F_Mo_action_10 : fetch m_Mo_action 10 = some (.iconst 1) := by decide +kernel
theorem F_Mo_action_11 : fetch m_Mo_action 11 = some (.goto 4) := by decide +kernel
theorem F_Mo_action_14 : fetch m_Mo_action 14 = some (.iconst 0) := by decide +kernel
theorem F_Mo_action_15 : fetch m_Mo_action 15 = some (.putfield 178) := by decide +kernel
theorem F_Mo_action_18 : fetch m_Mo_action 18 = some (.aload_n 0) := by decide +kernel
theorem F_Mo_action_19 : fetch m_Mo_action 19 = some (.getfield 178) := by decide +kernel
theorem F_Mo_action_22 : fetch m_Mo_action 22 = some (.ifCond .le 5) := by decide +kernel
theorem F_Mo_action_25 : fetch m_Mo_action 25 = some (.iconst 0) := by decide +kernel
theorem F_Mo_action_26 : fetch m_Mo_action 26 = some (.ireturn) := by decide +kernel
theorem F_Mo_action_27 : fetch m_Mo_action 27 = some (.aload_n 0) := by decide +kernel
theorem F_Mo_action_28 : fetch m_Mo_action 28 = some (.getfield 48) := by decide +kernel
theorem F_Mo_action_31 : fetch m_Mo_action 31 = some (.aload_n 0) := by decide +kernel
theorem F_Mo_action_32 : fetch m_Mo_action 32 = some (.getfield 218) := by decide +kernel
theorem F_Mo_action_35 : fetch m_Mo_action 35 = some (.iconst 0) := by decide +kernel
theorem F_Mo_action_36 : fetch m_Mo_action 36 = some (.iastore) := by decide +kernel
theorem F_Mo_action_37 : fetch m_Mo_action 37 = some (.aload_n 0) := by decide +kernel
theorem F_Mo_action_38 : fetch m_Mo_action 38 = some (.getfield 66) := by decide +kernel
theorem F_Mo_action_41 : fetch m_Mo_action 41 = some (.aload_n 0) := by decide +kernel
theorem F_Mo_action_42 : fetch m_Mo_action 42 = some (.getfield 218) := by decide +kernel
theorem F_Mo_action_45 : fetch m_Mo_action 45 = some (.iconst 0) := by decide +kernel
theorem F_Mo_action_46 : fetch m_Mo_action 46 = some (.iastore) := by decide +kernel
theorem F_Mo_action_47 : fetch m_Mo_action 47 = some (.aload_n 0) := by decide +kernel
theorem F_Mo_action_48 : fetch m_Mo_action 48 = some (.getfield 84) := by decide +kernel
theorem F_Mo_action_51 : fetch m_Mo_action 51 = some (.iconst 2) := by decide +kernel
theorem F_Mo_action_52 : fetch m_Mo_action 52 = some (.aload_n 0) := by decide +kernel
theorem F_Mo_action_53 : fetch m_Mo_action 53 = some (.getfield 218) := by decide +kernel
theorem F_Mo_action_56 : fetch m_Mo_action 56 = some (.imul) := by decide +kernel
theorem F_Mo_action_57 : fetch m_Mo_action 57 = some (.bipush (-2)) := by decide +kernel
theorem F_Mo_action_59 : fetch m_Mo_action 59 = some (.iastore) := by decide +kernel
theorem F_Mo_action_60 : fetch m_Mo_action 60 = some (.aload_n 0) := by decide +kernel
theorem F_Mo_action_61 : fetch m_Mo_action 61 = some (.getfield 84) := by decide +kernel
theorem F_Mo_action_64 : fetch m_Mo_action 64 = some (.iconst 2) := by decide +kernel
theorem F_Mo_action_65 : fetch m_Mo_action 65 = some (.aload_n 0) := by decide +kernel
theorem F_Mo_action_66 : fetch m_Mo_action 66 = some (.getfield 218) := by decide +kernel
theorem F_Mo_action_69 : fetch m_Mo_action 69 = some (.imul) := by decide +kernel
theorem F_Mo_action_70 : fetch m_Mo_action 70 = some (.iconst 1) := by decide +kernel
theorem F_Mo_action_71 : fetch m_Mo_action 71 = some (.iadd) := by decide +kernel
theorem F_Mo_action_72 : fetch m_Mo_action 72 = some (.bipush (-2)) := by decide +kernel
theorem F_Mo_action_74 : fetch m_Mo_action 74 = some (.iastore) := by decide +kernel
theorem F_Mo_action_75 : fetch m_Mo_action 75 = some (.aload_n 0) := by decide +kernel
theorem F_Mo_action_76 : fetch m_Mo_action 76 = some (.dup) := by decide +kernel
theorem F_Mo_action_77 : fetch m_Mo_action 77 = some (.getfield 218) := by decide +kernel
theorem F_Mo_action_80 : fetch m_Mo_action 80 = some (.iconst 1) := by decide +kernel
theorem F_Mo_action_81 : fetch m_Mo_action 81 = some (.iadd) := by decide +kernel
theorem F_Mo_action_82 : fetch m_Mo_action 82 = some (.putfield 218) := by decide +kernel
theorem F_Mo_action_85 : fetch m_Mo_action 85 = some (.aload_n 0) := by decide +kernel
theorem F_Mo_action_86 : fetch m_Mo_action 86 = some (.getfield 218) := by decide +kernel
theorem F_Mo_action_89 : fetch m_Mo_action 89 = some (.iconst 1) := by decide +kernel
theorem F_Mo_action_90 : fetch m_Mo_action 90 = some (.isub) := by decide +kernel
theorem F_Mo_action_91 : fetch m_Mo_action 91 = some (.ireturn) := by decide +kernel
theorem F_Mo_need_0 : fetch m_Mo_need 0 = some (.aload_n 0) := by decide +kernel
theorem F_Mo_need_1 : fetch m_Mo_need 1 = some (.aload_n 0) := by decide +kernel
theorem F_Mo_need_2 : fetch m_Mo_need 2 = some (.iload_n 1) := by decide +kernel
theorem F_Mo_need_3 : fetch m_Mo_need 3 = some (.invokevirtual 228) := by decide +kernel
theorem F_Mo_need_6 : fetch m_Mo_need 6 = some (.ifCond .eq 10) := by decide +kernel
theorem F_Mo_need_9 : fetch m_Mo_need 9 = some (.iload_n 3) := by decide +kernel
theorem F_Mo_need_10 : fetch m_Mo_need 10 = some (.invokestatic 221) := by decide +kernel
theorem F_Mo_need_13 : fetch m_Mo_need 13 = some (.ifCond .ne 7) := by decide +kernel
theorem F_Mo_need_16 : fetch m_Mo_need 16 = some (.iconst 1) := by decide +kernel
theorem F_Mo_need_17 : fetch m_Mo_need 17 = some (.goto 32) := by decide +kernel
theorem F_Mo_need_20 : fetch m_Mo_need 20 = some (.iload_n 2) := by decide +kernel
theorem F_Mo_need_21 : fetch m_Mo_need 21 = some (.iconst 0) := by decide +kernel
theorem F_Mo_need_22 : fetch m_Mo_need 22 = some (.iconst 2) := by decide +kernel
theorem F_Mo_need_23 : fetch m_Mo_need 23 = some (.invokestatic 200) := by decide +kernel
theorem F_Mo_need_26 : fetch m_Mo_need 26 = some (.ifCond .ne 7) := by decide +kernel
theorem F_Mo_need_29 : fetch m_Mo_need 29 = some (.iconst 2) := by decide +kernel
theorem F_Mo_need_30 : fetch m_Mo_need 30 = some (.goto 19) := by decide +kernel
theorem F_Mo_need_33 : fetch m_Mo_need 33 = some (.aload_n 0) := by decide +kernel
theorem F_Mo_need_34 : fetch m_Mo_need 34 = some (.getfield 48) := by decide +kernel
theorem F_Mo_need_37 : fetch m_Mo_need 37 = some (.iload_n 1) := by decide +kernel
theorem F_Mo_need_38 : fetch m_Mo_need 38 = some (.iaload) := by decide +kernel
theorem F_Mo_need_39 : fetch m_Mo_need 39 = some (.bipush 8) := by decide +kernel
theorem F_Mo_need_41 : fetch m_Mo_need 41 = some (.if_icmp .ne 7) := by decide +kernel
theorem F_Mo_need_44 : fetch m_Mo_need 44 = some (.iconst 3) := by decide +kernel
theorem F_Mo_need_45 : fetch m_Mo_need 45 = some (.goto 4) := by decide +kernel
theorem F_Mo_need_48 : fetch m_Mo_need 48 = some (.iconst 0) := by decide +kernel
theorem F_Mo_need_49 : fetch m_Mo_need 49 = some (.putfield 178) := by decide +kernel
theorem F_Mo_need_52 : fetch m_Mo_need 52 = some (.aload_n 0) := by decide +kernel
theorem F_Mo_need_53 : fetch m_Mo_need 53 = some (.getfield 178) := by decide +kernel
theorem F_Mo_need_56 : fetch m_Mo_need 56 = some (.ifCond .ne 22) := by decide +kernel
theorem F_Mo_need_59 : fetch m_Mo_need 59 = some (.aload_n 0) := by decide +kernel
theorem F_Mo_need_60 : fetch m_Mo_need 60 = some (.iload_n 1) := by decide +kernel
theorem F_Mo_need_61 : fetch m_Mo_need 61 = some (.iload_n 2) := by decide +kernel
theorem F_Mo_need_62 : fetch m_Mo_need 62 = some (.iload_n 3) := by decide +kernel
theorem F_Mo_need_63 : fetch m_Mo_need 63 = some (.iload 4) := by decide +kernel
theorem F_Mo_need_65 : fetch m_Mo_need 65 = some (.ifCond .eq 8) := by decide +kernel
theorem F_Mo_need_68 : fetch m_Mo_need 68 = some (.bipush 11) := by decide +kernel
theorem F_Mo_need_70 : fetch m_Mo_need 70 = some (.goto 5) := by decide +kernel
theorem F_Mo_need_73 : fetch m_Mo_need 73 = some (.bipush 10) := by decide +kernel
theorem F_Mo_need_75 : fetch m_Mo_need 75 = some (.invokevirtual 231) := by decide +kernel
theorem F_Mo_need_78 : fetch m_Mo_need 78 = some (.return_) := by decide +kernel
theorem F_Mo_isAction_0 : fetch m_Mo_isAction 0 = some (.iload_n 1) := by decide +kernel
theorem F_Mo_isAction_1 : fetch m_Mo_isAction 1 = some (.iconst 0) := by decide +kernel
theorem F_Mo_isAction_2 : fetch m_Mo_isAction 2 = some (.aload_n 0) := by decide +kernel
theorem F_Mo_isAction_3 : fetch m_Mo_isAction 3 = some (.getfield 218) := by decide +kernel
theorem F_Mo_isAction_6 : fetch m_Mo_isAction 6 = some (.iconst 1) := by decide +kernel
theorem F_Mo_isAction_7 : fetch m_Mo_isAction 7 = some (.isub) := by decide +kernel
theorem F_Mo_isAction_8 : fetch m_Mo_isAction 8 = some (.invokestatic 200) := by decide +kernel
theorem F_Mo_isAction_11 : fetch m_Mo_isAction 11 = some (.ireturn) := by decide +kernel
theorem F_Mo_addNeed_0 : fetch m_Mo_addNeed 0 = some (.bipush 8) := by decide +kernel
theorem F_Mo_addNeed_2 : fetch m_Mo_addNeed 2 = some (.iload_n 1) := by decide +kernel
theorem F_Mo_addNeed_3 : fetch m_Mo_addNeed 3 = some (.imul) := by decide +kernel
theorem F_Mo_addNeed_4 : fetch m_Mo_addNeed 4 = some (.aload_n 0) := by decide +kernel
theorem F_Mo_addNeed_5 : fetch m_Mo_addNeed 5 = some (.getfield 48) := by decide +kernel
theorem F_Mo_addNeed_8 : fetch m_Mo_addNeed 8 = some (.iload_n 1) := by decide +kernel
theorem F_Mo_addNeed_9 : fetch m_Mo_addNeed 9 = some (.iaload) := by decide +kernel
theorem F_Mo_addNeed_10 : fetch m_Mo_addNeed 10 = some (.iadd) := by decide +kernel
theorem F_Mo_addNeed_11 : fetch m_Mo_addNeed 11 = some (.istore 5) := by decide +kernel
theorem F_Mo_addNeed_13 : fetch m_Mo_addNeed 13 = some (.aload_n 0) := by decide +kernel
theorem F_Mo_addNeed_14 : fetch m_Mo_addNeed 14 = some (.getfield 51) := by decide +kernel
theorem F_Mo_addNeed_17 : fetch m_Mo_addNeed 17 = some (.iload 5) := by decide +kernel
theorem F_Mo_addNeed_19 : fetch m_Mo_addNeed 19 = some (.iload_n 2) := by decide +kernel
theorem F_Mo_addNeed_20 : fetch m_Mo_addNeed 20 = some (.iastore) := by decide +kernel
theorem F_Mo_addNeed_21 : fetch m_Mo_addNeed 21 = some (.aload_n 0) := by decide +kernel
theorem F_Mo_addNeed_22 : fetch m_Mo_addNeed 22 = some (.getfield 54) := by decide +kernel
theorem F_Mo_addNeed_25 : fetch m_Mo_addNeed 25 = some (.iload 5) := by decide +kernel
theorem F_Mo_addNeed_27 : fetch m_Mo_addNeed 27 = some (.iload_n 3) := by decide +kernel
theorem F_Mo_addNeed_28 : fetch m_Mo_addNeed 28 = some (.iastore) := by decide +kernel
theorem F_Mo_addNeed_29 : fetch m_Mo_addNeed 29 = some (.aload_n 0) := by decide +kernel
theorem F_Mo_addNeed_30 : fetch m_Mo_addNeed 30 = some (.getfield 57) := by decide +kernel
theorem F_Mo_addNeed_33 : fetch m_Mo_addNeed 33 = some (.iload 5) := by decide +kernel
theorem F_Mo_addNeed_35 : fetch m_Mo_addNeed 35 = some (.iload 4) := by decide +kernel
theorem F_Mo_addNeed_37 : fetch m_Mo_addNeed 37 = some (.iastore) := by decide +kernel
theorem F_Mo_addNeed_38 : fetch m_Mo_addNeed 38 = some (.aload_n 0) := by decide +kernel
theorem F_Mo_addNeed_39 : fetch m_Mo_addNeed 39 = some (.getfield 60) := by decide +kernel
theorem F_Mo_addNeed_42 : fetch m_Mo_addNeed 42 = some (.iload 5) := by decide +kernel
theorem F_Mo_addNeed_44 : fetch m_Mo_addNeed 44 = some (.aload_n 0) := by decide +kernel
theorem F_Mo_addNeed_45 : fetch m_Mo_addNeed 45 = some (.getfield 212) := by decide +kernel
theorem F_Mo_addNeed_48 : fetch m_Mo_addNeed 48 = some (.lastore) := by decide +kernel
theorem F_Mo_addNeed_49 : fetch m_Mo_addNeed 49 = some (.aload_n 0) := by decide +kernel
theorem F_Mo_addNeed_50 : fetch m_Mo_addNeed 50 = some (.getfield 63) := by decide +kernel
theorem F_Mo_addNeed_53 : fetch m_Mo_addNeed 53 = some (.iload 5) := by decide +kernel
theorem F_Mo_addNeed_55 : fetch m_Mo_addNeed 55 = some (.aload_n 0) := by decide +kernel
theorem F_Mo_addNeed_56 : fetch m_Mo_addNeed 56 = some (.getfield 7) := by decide +kernel
theorem F_Mo_addNeed_59 : fetch m_Mo_addNeed 59 = some (.lastore) := by decide +kernel
theorem F_Mo_addNeed_60 : fetch m_Mo_addNeed 60 = some (.aload_n 0) := by decide +kernel
theorem F_Mo_addNeed_61 : fetch m_Mo_addNeed 61 = some (.getfield 48) := by decide +kernel
theorem F_Mo_addNeed_64 : fetch m_Mo_addNeed 64 = some (.iload_n 1) := by decide +kernel
theorem F_Mo_addNeed_65 : fetch m_Mo_addNeed 65 = some (.dup2) := by decide +kernel
theorem F_Mo_addNeed_66 : fetch m_Mo_addNeed 66 = some (.iaload) := by decide +kernel
theorem F_Mo_addNeed_67 : fetch m_Mo_addNeed 67 = some (.iconst 1) := by decide +kernel
theorem F_Mo_addNeed_68 : fetch m_Mo_addNeed 68 = some (.iadd) := by decide +kernel
theorem F_Mo_addNeed_69 : fetch m_Mo_addNeed 69 = some (.iastore) := by decide +kernel
theorem F_Mo_addNeed_70 : fetch m_Mo_addNeed 70 = some (.return_) := by decide +kernel
theorem F_Mo_compare_0 : fetch m_Mo_compare 0 = some (.aload_n 0) := by decide +kernel
theorem F_Mo_compare_1 : fetch m_Mo_compare 1 = some (.aload_n 0) := by decide +kernel
theorem F_Mo_compare_2 : fetch m_Mo_compare 2 = some (.iload_n 1) := by decide +kernel
theorem F_Mo_compare_3 : fetch m_Mo_compare 3 = some (.invokevirtual 228) := by decide +kernel
theorem F_Mo_compare_6 : fetch m_Mo_compare 6 = some (.ifCond .eq 10) := by decide +kernel
theorem F_Mo_compare_9 : fetch m_Mo_compare 9 = some (.iload_n 3) := by decide +kernel
theorem F_Mo_compare_10 : fetch m_Mo_compare 10 = some (.invokestatic 225) := by decide +kernel
theorem F_Mo_compare_13 : fetch m_Mo_compare 13 = some (.ifCond .ne 7) := by decide +kernel
theorem F_Mo_compare_16 : fetch m_Mo_compare 16 = some (.iconst 1) := by decide +kernel
theorem F_Mo_compare_17 : fetch m_Mo_compare 17 = some (.goto 42) := by decide +kernel
theorem F_Mo_compare_20 : fetch m_Mo_compare 20 = some (.iload_n 2) := by decide +kernel
theorem F_Mo_compare_21 : fetch m_Mo_compare 21 = some (.iconst 0) := by decide +kernel
theorem F_Mo_compare_22 : fetch m_Mo_compare 22 = some (.iconst 2) := by decide +kernel
theorem F_Mo_compare_23 : fetch m_Mo_compare 23 = some (.invokestatic 200) := by decide +kernel
theorem F_Mo_compare_26 : fetch m_Mo_compare 26 = some (.ifCond .eq 13) := by decide +kernel
theorem F_Mo_compare_29 : fetch m_Mo_compare 29 = some (.iload 4) := by decide +kernel
theorem F_Mo_compare_31 : fetch m_Mo_compare 31 = some (.iconst 0) := by decide +kernel
theorem F_Mo_compare_32 : fetch m_Mo_compare 32 = some (.iconst 4) := by decide +kernel
theorem F_Mo_compare_33 : fetch m_Mo_compare 33 = some (.invokestatic 200) := by decide +kernel
theorem F_Mo_compare_36 : fetch m_Mo_compare 36 = some (.ifCond .ne 7) := by decide +kernel
theorem F_Mo_compare_39 : fetch m_Mo_compare 39 = some (.iconst 2) := by decide +kernel
theorem F_Mo_compare_40 : fetch m_Mo_compare 40 = some (.goto 19) := by decide +kernel
theorem F_Mo_compare_43 : fetch m_Mo_compare 43 = some (.aload_n 0) := by decide +kernel
theorem F_Mo_compare_44 : fetch m_Mo_compare 44 = some (.getfield 48) := by decide +kernel
theorem F_Mo_compare_47 : fetch m_Mo_compare 47 = some (.iload_n 1) := by decide +kernel
theorem F_Mo_compare_48 : fetch m_Mo_compare 48 = some (.iaload) := by decide +kernel
theorem F_Mo_compare_49 : fetch m_Mo_compare 49 = some (.bipush 8) := by decide +kernel
theorem F_Mo_compare_51 : fetch m_Mo_compare 51 = some (.if_icmp .ne 7) := by decide +kernel
theorem F_Mo_compare_54 : fetch m_Mo_compare 54 = some (.iconst 3) := by decide +kernel
theorem F_Mo_compare_55 : fetch m_Mo_compare 55 = some (.goto 4) := by decide +kernel
theorem F_Mo_compare_58 : fetch m_Mo_compare 58 = some (.iconst 0) := by decide +kernel
theorem F_Mo_compare_59 : fetch m_Mo_compare 59 = some (.putfield 178) := by decide +kernel
theorem F_Mo_compare_62 : fetch m_Mo_compare 62 = some (.aload_n 0) := by decide +kernel
theorem F_Mo_compare_63 : fetch m_Mo_compare 63 = some (.getfield 178) := by decide +kernel
theorem F_Mo_compare_66 : fetch m_Mo_compare 66 = some (.ifCond .ne 12) := by decide +kernel
theorem F_Mo_compare_69 : fetch m_Mo_compare 69 = some (.aload_n 0) := by decide +kernel
theorem F_Mo_compare_70 : fetch m_Mo_compare 70 = some (.iload_n 1) := by decide +kernel
theorem F_Mo_compare_71 : fetch m_Mo_compare 71 = some (.iload_n 2) := by decide +kernel
theorem F_Mo_compare_72 : fetch m_Mo_compare 72 = some (.iload_n 3) := by decide +kernel
theorem F_Mo_compare_73 : fetch m_Mo_compare 73 = some (.iload 4) := by decide +kernel
theorem F_Mo_compare_75 : fetch m_Mo_compare 75 = some (.invokevirtual 231) := by decide +kernel
theorem F_Mo_compare_78 : fetch m_Mo_compare 78 = some (.return_) := by decide +kernel
theorem F_Mo_make_0 : fetch m_Mo_make 0 = some (.aload_n 0) := by decide +kernel
theorem F_Mo_make_1 : fetch m_Mo_make 1 = some (.aload_n 0) := by decide +kernel
theorem F_Mo_make_2 : fetch m_Mo_make 2 = some (.iload_n 1) := by decide +kernel
theorem F_Mo_make_3 : fetch m_Mo_make 3 = some (.invokevirtual 228) := by decide +kernel
theorem F_Mo_make_6 : fetch m_Mo_make 6 = some (.ifCond .eq 10) := by decide +kernel
theorem F_Mo_make_9 : fetch m_Mo_make 9 = some (.iload_n 3) := by decide +kernel
theorem F_Mo_make_10 : fetch m_Mo_make 10 = some (.invokestatic 221) := by decide +kernel
theorem F_Mo_make_13 : fetch m_Mo_make 13 = some (.ifCond .ne 7) := by decide +kernel
theorem F_Mo_make_16 : fetch m_Mo_make 16 = some (.iconst 1) := by decide +kernel
theorem F_Mo_make_17 : fetch m_Mo_make 17 = some (.goto 43) := by decide +kernel
theorem F_Mo_make_20 : fetch m_Mo_make 20 = some (.iload_n 2) := by decide +kernel
theorem F_Mo_make_21 : fetch m_Mo_make 21 = some (.ifCond .eq 12) := by decide +kernel
theorem F_Mo_make_24 : fetch m_Mo_make 24 = some (.iload_n 2) := by decide +kernel
theorem F_Mo_make_25 : fetch m_Mo_make 25 = some (.iconst 2) := by decide +kernel
theorem F_Mo_make_26 : fetch m_Mo_make 26 = some (.if_icmp .eq 7) := by decide +kernel
theorem F_Mo_make_29 : fetch m_Mo_make 29 = some (.iconst 2) := by decide +kernel
theorem F_Mo_make_30 : fetch m_Mo_make 30 = some (.goto 30) := by decide +kernel
theorem F_Mo_make_33 : fetch m_Mo_make 33 = some (.aload_n 0) := by decide +kernel
theorem F_Mo_make_34 : fetch m_Mo_make 34 = some (.getfield 66) := by decide +kernel
theorem F_Mo_make_37 : fetch m_Mo_make 37 = some (.iload_n 1) := by decide +kernel
theorem F_Mo_make_38 : fetch m_Mo_make 38 = some (.iaload) := by decide +kernel
theorem F_Mo_make_39 : fetch m_Mo_make 39 = some (.bipush 6) := by decide +kernel
theorem F_Mo_make_41 : fetch m_Mo_make 41 = some (.if_icmp .eq 14) := by decide +kernel
theorem F_Mo_make_44 : fetch m_Mo_make 44 = some (.aload_n 0) := by decide +kernel
theorem F_Mo_make_45 : fetch m_Mo_make 45 = some (.iload_n 1) := by decide +kernel
theorem F_Mo_make_46 : fetch m_Mo_make 46 = some (.iload_n 2) := by decide +kernel
theorem F_Mo_make_47 : fetch m_Mo_make 47 = some (.iconst 1) := by decide +kernel
theorem F_Mo_make_48 : fetch m_Mo_make 48 = some (.iload_n 3) := by decide +kernel
theorem F_Mo_make_49 : fetch m_Mo_make 49 = some (.invokevirtual 235) := by decide +kernel
theorem F_Mo_make_52 : fetch m_Mo_make 52 = some (.ifCond .lt 7) := by decide +kernel
theorem F_Mo_make_55 : fetch m_Mo_make 55 = some (.iconst 3) := by decide +kernel
theorem F_Mo_make_56 : fetch m_Mo_make 56 = some (.goto 4) := by decide +kernel
theorem F_Mo_make_59 : fetch m_Mo_make 59 = some (.iconst 0) := by decide +kernel
theorem F_Mo_make_60 : fetch m_Mo_make 60 = some (.putfield 178) := by decide +kernel
theorem F_Mo_make_63 : fetch m_Mo_make 63 = some (.aload_n 0) := by decide +kernel
theorem F_Mo_make_64 : fetch m_Mo_make 64 = some (.getfield 178) := by decide +kernel
theorem F_Mo_make_67 : fetch m_Mo_make 67 = some (.ifCond .ne 22) := by decide +kernel
theorem F_Mo_make_70 : fetch m_Mo_make 70 = some (.aload_n 0) := by decide +kernel
theorem F_Mo_make_71 : fetch m_Mo_make 71 = some (.iload_n 1) := by decide +kernel
theorem F_Mo_make_72 : fetch m_Mo_make 72 = some (.iload_n 2) := by decide +kernel
theorem F_Mo_make_73 : fetch m_Mo_make 73 = some (.iload_n 3) := by decide +kernel
theorem F_Mo_make_74 : fetch m_Mo_make 74 = some (.iload 4) := by decide +kernel
theorem F_Mo_make_76 : fetch m_Mo_make 76 = some (.ifCond .eq 8) := by decide +kernel
theorem F_Mo_make_79 : fetch m_Mo_make 79 = some (.bipush 11) := by decide +kernel
theorem F_Mo_make_81 : fetch m_Mo_make 81 = some (.goto 5) := by decide +kernel
theorem F_Mo_make_84 : fetch m_Mo_make 84 = some (.bipush 10) := by decide +kernel
theorem F_Mo_make_86 : fetch m_Mo_make 86 = some (.invokevirtual 239) := by decide +kernel
theorem F_Mo_make_89 : fetch m_Mo_make 89 = some (.return_) := by decide +kernel
theorem F_Mo_changing_0 : fetch m_Mo_changing 0 = some (.bipush 6) := by decide +kernel
theorem F_Mo_changing_2 : fetch m_Mo_changing 2 = some (.iload_n 1) := by decide +kernel
theorem F_Mo_changing_3 : fetch m_Mo_changing 3 = some (.imul) := by decide +kernel
theorem F_Mo_changing_4 : fetch m_Mo_changing 4 = some (.istore 5) := by decide +kernel
theorem F_Mo_changing_6 : fetch m_Mo_changing 6 = some (.iload 5) := by decide +kernel
theorem F_Mo_changing_8 : fetch m_Mo_changing 8 = some (.bipush 6) := by decide +kernel
theorem F_Mo_changing_10 : fetch m_Mo_changing 10 = some (.iload_n 1) := by decide +kernel
theorem F_Mo_changing_11 : fetch m_Mo_changing 11 = some (.imul) := by decide +kernel
theorem F_Mo_changing_12 : fetch m_Mo_changing 12 = some (.aload_n 0) := by decide +kernel
theorem F_Mo_changing_13 : fetch m_Mo_changing 13 = some (.getfield 66) := by decide +kernel
theorem F_Mo_changing_16 : fetch m_Mo_changing 16 = some (.iload_n 1) := by decide +kernel
theorem F_Mo_changing_17 : fetch m_Mo_changing 17 = some (.iaload) := by decide +kernel
theorem F_Mo_changing_18 : fetch m_Mo_changing 18 = some (.iadd) := by decide +kernel
theorem F_Mo_changing_19 : fetch m_Mo_changing 19 = some (.if_icmp .ge 56) := by decide +kernel
theorem F_Mo_changing_22 : fetch m_Mo_changing 22 = some (.aload_n 0) := by decide +kernel
theorem F_Mo_changing_23 : fetch m_Mo_changing 23 = some (.getfield 69) := by decide +kernel
theorem F_Mo_changing_26 : fetch m_Mo_changing 26 = some (.iload 5) := by decide +kernel
theorem F_Mo_changing_28 : fetch m_Mo_changing 28 = some (.iaload) := by decide +kernel
theorem F_Mo_changing_29 : fetch m_Mo_changing 29 = some (.iload_n 2) := by decide +kernel
theorem F_Mo_changing_30 : fetch m_Mo_changing 30 = some (.if_icmp .ne 39) := by decide +kernel
theorem F_Mo_changing_33 : fetch m_Mo_changing 33 = some (.aload_n 0) := by decide +kernel
theorem F_Mo_changing_34 : fetch m_Mo_changing 34 = some (.getfield 75) := by decide +kernel
theorem F_Mo_changing_37 : fetch m_Mo_changing 37 = some (.iload 5) := by decide +kernel
theorem F_Mo_changing_39 : fetch m_Mo_changing 39 = some (.iaload) := by decide +kernel
theorem F_Mo_changing_40 : fetch m_Mo_changing 40 = some (.bipush 9) := by decide +kernel
theorem F_Mo_changing_42 : fetch m_Mo_changing 42 = some (.if_icmp .le 7) := by decide +kernel
theorem F_Mo_changing_45 : fetch m_Mo_changing 45 = some (.iconst 1) := by decide +kernel
theorem F_Mo_changing_46 : fetch m_Mo_changing 46 = some (.goto 4) := by decide +kernel
theorem F_Mo_changing_49 : fetch m_Mo_changing 49 = some (.iconst 0) := by decide +kernel
theorem F_Mo_changing_50 : fetch m_Mo_changing 50 = some (.iload_n 3) := by decide +kernel
theorem F_Mo_changing_51 : fetch m_Mo_changing 51 = some (.if_icmp .ne 18) := by decide +kernel
theorem F_Mo_changing_54 : fetch m_Mo_changing 54 = some (.aload_n 0) := by decide +kernel
theorem F_Mo_changing_55 : fetch m_Mo_changing 55 = some (.getfield 72) := by decide +kernel
theorem F_Mo_changing_58 : fetch m_Mo_changing 58 = some (.iload 5) := by decide +kernel
theorem F_Mo_changing_60 : fetch m_Mo_changing 60 = some (.iaload) := by decide +kernel
theorem F_Mo_changing_61 : fetch m_Mo_changing 61 = some (.iload 4) := by decide +kernel
theorem F_Mo_changing_63 : fetch m_Mo_changing 63 = some (.if_icmp .ne 6) := by decide +kernel
theorem F_Mo_changing_66 : fetch m_Mo_changing 66 = some (.iload 5) := by decide +kernel
theorem F_Mo_changing_68 : fetch m_Mo_changing 68 = some (.ireturn) := by decide +kernel
theorem F_Mo_changing_69 : fetch m_Mo_changing 69 = some (.iinc 5 1) := by decide +kernel
theorem F_Mo_changing_72 : fetch m_Mo_changing 72 = some (.goto (-66)) := by decide +kernel
theorem F_Mo_changing_75 : fetch m_Mo_changing 75 = some (.iconst (-1)) := by decide +kernel
theorem F_Mo_changing_76 : fetch m_Mo_changing 76 = some (.ireturn) := by decide +kernel
theorem F_Mo_addChange_0 : fetch m_Mo_addChange 0 = some (.bipush 6) := by decide +kernel
theorem F_Mo_addChange_2 : fetch m_Mo_addChange 2 = some (.iload_n 1) := by decide +kernel
theorem F_Mo_addChange_3 : fetch m_Mo_addChange 3 = some (.imul) := by decide +kernel
theorem F_Mo_addChange_4 : fetch m_Mo_addChange 4 = some (.aload_n 0) := by decide +kernel
theorem F_Mo_addChange_5 : fetch m_Mo_addChange 5 = some (.getfield 66) := by decide +kernel
theorem F_Mo_addChange_8 : fetch m_Mo_addChange 8 = some (.iload_n 1) := by decide +kernel
theorem F_Mo_addChange_9 : fetch m_Mo_addChange 9 = some (.iaload) := by decide +kernel
theorem F_Mo_addChange_10 : fetch m_Mo_addChange 10 = some (.iadd) := by decide +kernel
theorem F_Mo_addChange_11 : fetch m_Mo_addChange 11 = some (.istore 5) := by decide +kernel
theorem F_Mo_addChange_13 : fetch m_Mo_addChange 13 = some (.aload_n 0) := by decide +kernel
theorem F_Mo_addChange_14 : fetch m_Mo_addChange 14 = some (.getfield 69) := by decide +kernel
theorem F_Mo_addChange_17 : fetch m_Mo_addChange 17 = some (.iload 5) := by decide +kernel
theorem F_Mo_addChange_19 : fetch m_Mo_addChange 19 = some (.iload_n 2) := by decide +kernel
theorem F_Mo_addChange_20 : fetch m_Mo_addChange 20 = some (.iastore) := by decide +kernel
theorem F_Mo_addChange_21 : fetch m_Mo_addChange 21 = some (.aload_n 0) := by decide +kernel
theorem F_Mo_addChange_22 : fetch m_Mo_addChange 22 = some (.getfield 72) := by decide +kernel
theorem F_Mo_addChange_25 : fetch m_Mo_addChange 25 = some (.iload 5) := by decide +kernel
theorem F_Mo_addChange_27 : fetch m_Mo_addChange 27 = some (.iload_n 3) := by decide +kernel
theorem F_Mo_addChange_28 : fetch m_Mo_addChange 28 = some (.iastore) := by decide +kernel
theorem F_Mo_addChange_29 : fetch m_Mo_addChange 29 = some (.aload_n 0) := by decide +kernel
theorem F_Mo_addChange_30 : fetch m_Mo_addChange 30 = some (.getfield 75) := by decide +kernel
theorem F_Mo_addChange_33 : fetch m_Mo_addChange 33 = some (.iload 5) := by decide +kernel
theorem F_Mo_addChange_35 : fetch m_Mo_addChange 35 = some (.iload 4) := by decide +kernel
theorem F_Mo_addChange_37 : fetch m_Mo_addChange 37 = some (.iastore) := by decide +kernel
theorem F_Mo_addChange_38 : fetch m_Mo_addChange 38 = some (.aload_n 0) := by decide +kernel
theorem F_Mo_addChange_39 : fetch m_Mo_addChange 39 = some (.getfield 78) := by decide +kernel
theorem F_Mo_addChange_42 : fetch m_Mo_addChange 42 = some (.iload 5) := by decide +kernel
theorem F_Mo_addChange_44 : fetch m_Mo_addChange 44 = some (.aload_n 0) := by decide +kernel
theorem F_Mo_addChange_45 : fetch m_Mo_addChange 45 = some (.getfield 212) := by decide +kernel
theorem F_Mo_addChange_48 : fetch m_Mo_addChange 48 = some (.lastore) := by decide +kernel
theorem F_Mo_addChange_49 : fetch m_Mo_addChange 49 = some (.aload_n 0) := by decide +kernel
theorem F_Mo_addChange_50 : fetch m_Mo_addChange 50 = some (.getfield 81) := by decide +kernel
theorem F_Mo_addChange_53 : fetch m_Mo_addChange 53 = some (.iload 5) := by decide +kernel
theorem F_Mo_addChange_55 : fetch m_Mo_addChange 55 = some (.aload_n 0) := by decide +kernel
theorem F_Mo_addChange_56 : fetch m_Mo_addChange 56 = some (.getfield 7) := by decide +kernel
theorem F_Mo_addChange_59 : fetch m_Mo_addChange 59 = some (.lastore) := by decide +kernel
theorem F_Mo_addChange_60 : fetch m_Mo_addChange 60 = some (.aload_n 0) := by decide +kernel
theorem F_Mo_addChange_61 : fetch m_Mo_addChange 61 = some (.getfield 66) := by decide +kernel
theorem F_Mo_addChange_64 : fetch m_Mo_addChange 64 = some (.iload_n 1) := by decide +kernel
theorem F_Mo_addChange_65 : fetch m_Mo_addChange 65 = some (.dup2) := by decide +kernel
theorem F_Mo_addChange_66 : fetch m_Mo_addChange 66 = some (.iaload) := by decide +kernel
theorem F_Mo_addChange_67 : fetch m_Mo_addChange 67 = some (.iconst 1) := by decide +kernel
theorem F_Mo_addChange_68 : fetch m_Mo_addChange 68 = some (.iadd) := by decide +kernel
theorem F_Mo_addChange_69 : fetch m_Mo_addChange 69 = some (.iastore) := by decide +kernel
theorem F_Mo_addChange_70 : fetch m_Mo_addChange 70 = some (.return_) := by decide +kernel
theorem F_Mo_change_0 : fetch m_Mo_change 0 = some (.aload_n 0) := by decide +kernel
theorem F_Mo_change_1 : fetch m_Mo_change 1 = some (.aload_n 0) := by decide +kernel
theorem F_Mo_change_2 : fetch m_Mo_change 2 = some (.iload_n 1) := by decide +kernel
theorem F_Mo_change_3 : fetch m_Mo_change 3 = some (.invokevirtual 228) := by decide +kernel
theorem F_Mo_change_6 : fetch m_Mo_change 6 = some (.ifCond .eq 10) := by decide +kernel
theorem F_Mo_change_9 : fetch m_Mo_change 9 = some (.iload_n 3) := by decide +kernel
theorem F_Mo_change_10 : fetch m_Mo_change 10 = some (.invokestatic 225) := by decide +kernel
theorem F_Mo_change_13 : fetch m_Mo_change 13 = some (.ifCond .ne 7) := by decide +kernel
theorem F_Mo_change_16 : fetch m_Mo_change 16 = some (.iconst 1) := by decide +kernel
theorem F_Mo_change_17 : fetch m_Mo_change 17 = some (.goto 53) := by decide +kernel
theorem F_Mo_change_20 : fetch m_Mo_change 20 = some (.iload_n 2) := by decide +kernel
theorem F_Mo_change_21 : fetch m_Mo_change 21 = some (.ifCond .eq 8) := by decide +kernel
theorem F_Mo_change_24 : fetch m_Mo_change 24 = some (.iload_n 2) := by decide +kernel
theorem F_Mo_change_25 : fetch m_Mo_change 25 = some (.iconst 2) := by decide +kernel
theorem F_Mo_change_26 : fetch m_Mo_change 26 = some (.if_icmp .ne 13) := by decide +kernel
theorem F_Mo_change_29 : fetch m_Mo_change 29 = some (.iload 4) := by decide +kernel
theorem F_Mo_change_31 : fetch m_Mo_change 31 = some (.iconst 0) := by decide +kernel
theorem F_Mo_change_32 : fetch m_Mo_change 32 = some (.iconst 3) := by decide +kernel
theorem F_Mo_change_33 : fetch m_Mo_change 33 = some (.invokestatic 200) := by decide +kernel
theorem F_Mo_change_36 : fetch m_Mo_change 36 = some (.ifCond .ne 7) := by decide +kernel
theorem F_Mo_change_39 : fetch m_Mo_change 39 = some (.iconst 2) := by decide +kernel
theorem F_Mo_change_40 : fetch m_Mo_change 40 = some (.goto 30) := by decide +kernel
theorem F_Mo_change_43 : fetch m_Mo_change 43 = some (.aload_n 0) := by decide +kernel
theorem F_Mo_change_44 : fetch m_Mo_change 44 = some (.getfield 66) := by decide +kernel
theorem F_Mo_change_47 : fetch m_Mo_change 47 = some (.iload_n 1) := by decide +kernel
theorem F_Mo_change_48 : fetch m_Mo_change 48 = some (.iaload) := by decide +kernel
theorem F_Mo_change_49 : fetch m_Mo_change 49 = some (.bipush 6) := by decide +kernel
theorem F_Mo_change_51 : fetch m_Mo_change 51 = some (.if_icmp .eq 14) := by decide +kernel
theorem F_Mo_change_54 : fetch m_Mo_change 54 = some (.aload_n 0) := by decide +kernel
theorem F_Mo_change_55 : fetch m_Mo_change 55 = some (.iload_n 1) := by decide +kernel
theorem F_Mo_change_56 : fetch m_Mo_change 56 = some (.iload_n 2) := by decide +kernel
theorem F_Mo_change_57 : fetch m_Mo_change 57 = some (.iconst 0) := by decide +kernel
theorem F_Mo_change_58 : fetch m_Mo_change 58 = some (.iload_n 3) := by decide +kernel
theorem F_Mo_change_59 : fetch m_Mo_change 59 = some (.invokevirtual 235) := by decide +kernel
theorem F_Mo_change_62 : fetch m_Mo_change 62 = some (.ifCond .lt 7) := by decide +kernel
theorem F_Mo_change_65 : fetch m_Mo_change 65 = some (.iconst 3) := by decide +kernel
theorem F_Mo_change_66 : fetch m_Mo_change 66 = some (.goto 4) := by decide +kernel
theorem F_Mo_change_69 : fetch m_Mo_change 69 = some (.iconst 0) := by decide +kernel
theorem F_Mo_change_70 : fetch m_Mo_change 70 = some (.putfield 178) := by decide +kernel
theorem F_Mo_change_73 : fetch m_Mo_change 73 = some (.aload_n 0) := by decide +kernel
theorem F_Mo_change_74 : fetch m_Mo_change 74 = some (.getfield 178) := by decide +kernel
theorem F_Mo_change_77 : fetch m_Mo_change 77 = some (.ifCond .ne 12) := by decide +kernel
theorem F_Mo_change_80 : fetch m_Mo_change 80 = some (.aload_n 0) := by decide +kernel
theorem F_Mo_change_81 : fetch m_Mo_change 81 = some (.iload_n 1) := by decide +kernel
theorem F_Mo_change_82 : fetch m_Mo_change 82 = some (.iload_n 2) := by decide +kernel
theorem F_Mo_change_83 : fetch m_Mo_change 83 = some (.iload_n 3) := by decide +kernel
theorem F_Mo_change_84 : fetch m_Mo_change 84 = some (.iload 4) := by decide +kernel
theorem F_Mo_change_86 : fetch m_Mo_change 86 = some (.invokevirtual 239) := by decide +kernel
theorem F_Mo_change_89 : fetch m_Mo_change 89 = some (.return_) := by decide +kernel
theorem F_Mo_last_0 : fetch m_Mo_last 0 = some (.aload_n 0) := by decide +kernel
theorem F_Mo_last_1 : fetch m_Mo_last 1 = some (.aload_n 0) := by decide +kernel
theorem F_Mo_last_2 : fetch m_Mo_last 2 = some (.iload_n 1) := by decide +kernel
theorem F_Mo_last_3 : fetch m_Mo_last 3 = some (.invokevirtual 228) := by decide +kernel
theorem F_Mo_last_6 : fetch m_Mo_last 6 = some (.ifCond .eq 14) := by decide +kernel
theorem F_Mo_last_9 : fetch m_Mo_last 9 = some (.iload_n 3) := by decide +kernel
theorem F_Mo_last_10 : fetch m_Mo_last 10 = some (.bipush (-2)) := by decide +kernel
theorem F_Mo_last_12 : fetch m_Mo_last 12 = some (.bipush 7) := by decide +kernel
theorem F_Mo_last_14 : fetch m_Mo_last 14 = some (.invokestatic 200) := by decide +kernel
theorem F_Mo_last_17 : fetch m_Mo_last 17 = some (.ifCond .ne 7) := by decide +kernel
theorem F_Mo_last_20 : fetch m_Mo_last 20 = some (.iconst 1) := by decide +kernel
theorem F_Mo_last_21 : fetch m_Mo_last 21 = some (.goto 17) := by decide +kernel
theorem F_Mo_last_24 : fetch m_Mo_last 24 = some (.iload_n 2) := by decide +kernel
theorem F_Mo_last_25 : fetch m_Mo_last 25 = some (.iconst 0) := by decide +kernel
theorem F_Mo_last_26 : fetch m_Mo_last 26 = some (.iconst 1) := by decide +kernel
theorem F_Mo_last_27 : fetch m_Mo_last 27 = some (.invokestatic 200) := by decide +kernel
theorem F_Mo_last_30 : fetch m_Mo_last 30 = some (.ifCond .ne 7) := by decide +kernel
theorem F_Mo_last_33 : fetch m_Mo_last 33 = some (.iconst 2) := by decide +kernel
theorem F_Mo_last_34 : fetch m_Mo_last 34 = some (.goto 4) := by decide +kernel
theorem F_Mo_last_37 : fetch m_Mo_last 37 = some (.iconst 0) := by decide +kernel
theorem F_Mo_last_38 : fetch m_Mo_last 38 = some (.putfield 178) := by decide +kernel
theorem F_Mo_last_41 : fetch m_Mo_last 41 = some (.aload_n 0) := by decide +kernel
theorem F_Mo_last_42 : fetch m_Mo_last 42 = some (.getfield 178) := by decide +kernel
theorem F_Mo_last_45 : fetch m_Mo_last 45 = some (.ifCond .le 4) := by decide +kernel
theorem F_Mo_last_48 : fetch m_Mo_last 48 = some (.return_) := by decide +kernel
theorem F_Mo_last_49 : fetch m_Mo_last 49 = some (.aload_n 0) := by decide +kernel
theorem F_Mo_last_50 : fetch m_Mo_last 50 = some (.getfield 84) := by decide +kernel
theorem F_Mo_last_53 : fetch m_Mo_last 53 = some (.iconst 2) := by decide +kernel
theorem F_Mo_last_54 : fetch m_Mo_last 54 = some (.iload_n 1) := by decide +kernel
theorem F_Mo_last_55 : fetch m_Mo_last 55 = some (.imul) := by decide +kernel
theorem F_Mo_last_56 : fetch m_Mo_last 56 = some (.iload_n 2) := by decide +kernel
theorem F_Mo_last_57 : fetch m_Mo_last 57 = some (.iadd) := by decide +kernel
theorem F_Mo_last_58 : fetch m_Mo_last 58 = some (.iload_n 3) := by decide +kernel
theorem F_Mo_last_59 : fetch m_Mo_last 59 = some (.iastore) := by decide +kernel
theorem F_Mo_last_60 : fetch m_Mo_last 60 = some (.aload_n 0) := by decide +kernel
theorem F_Mo_last_61 : fetch m_Mo_last 61 = some (.getfield 87) := by decide +kernel
theorem F_Mo_last_64 : fetch m_Mo_last 64 = some (.iconst 2) := by decide +kernel
theorem F_Mo_last_65 : fetch m_Mo_last 65 = some (.iload_n 1) := by decide +kernel
theorem F_Mo_last_66 : fetch m_Mo_last 66 = some (.imul) := by decide +kernel
theorem F_Mo_last_67 : fetch m_Mo_last 67 = some (.iload_n 2) := by decide +kernel
theorem F_Mo_last_68 : fetch m_Mo_last 68 = some (.iadd) := by decide +kernel
theorem F_Mo_last_69 : fetch m_Mo_last 69 = some (.aload_n 0) := by decide +kernel
theorem F_Mo_last_70 : fetch m_Mo_last 70 = some (.getfield 212) := by decide +kernel
theorem F_Mo_last_73 : fetch m_Mo_last 73 = some (.lastore) := by decide +kernel
theorem F_Mo_last_74 : fetch m_Mo_last 74 = some (.aload_n 0) := by decide +kernel
theorem F_Mo_last_75 : fetch m_Mo_last 75 = some (.getfield 90) := by decide +kernel
theorem F_Mo_last_78 : fetch m_Mo_last 78 = some (.iconst 2) := by decide +kernel
theorem F_Mo_last_79 : fetch m_Mo_last 79 = some (.iload_n 1) := by decide +kernel
theorem F_Mo_last_80 : fetch m_Mo_last 80 = some (.imul) := by decide +kernel
theorem F_Mo_last_81 : fetch m_Mo_last 81 = some (.iload_n 2) := by decide +kernel
theorem F_Mo_last_82 : fetch m_Mo_last 82 = some (.iadd) := by decide +kernel
theorem F_Mo_last_83 : fetch m_Mo_last 83 = some (.aload_n 0) := by decide +kernel
theorem F_Mo_last_84 : fetch m_Mo_last 84 = some (.getfield 7) := by decide +kernel
theorem F_Mo_last_87 : fetch m_Mo_last 87 = some (.lastore) := by decide +kernel
theorem F_Mo_last_88 : fetch m_Mo_last 88 = some (.return_) := by decide +kernel
theorem F_Mo_step_0 : fetch m_Mo_step 0 = some (.aload_n 0) := by decide +kernel
theorem F_Mo_step_1 : fetch m_Mo_step 1 = some (.aload_n 0) := by decide +kernel
theorem F_Mo_step_2 : fetch m_Mo_step 2 = some (.iload_n 1) := by decide +kernel
theorem F_Mo_step_3 : fetch m_Mo_step 3 = some (.invokevirtual 228) := by decide +kernel
theorem F_Mo_step_6 : fetch m_Mo_step 6 = some (.ifCond .ne 7) := by decide +kernel
theorem F_Mo_step_9 : fetch m_Mo_step 9 = some (.iconst 1) := by decide +kernel
theorem F_Mo_step_10 : fetch m_Mo_step 10 = some (.goto 39) := by decide +kernel
theorem F_Mo_step_13 : fetch m_Mo_step 13 = some (.aload_n 0) := by decide +kernel
theorem F_Mo_step_14 : fetch m_Mo_step 14 = some (.getfield 215) := by decide +kernel
theorem F_Mo_step_17 : fetch m_Mo_step 17 = some (.lconst 0) := by decide +kernel
theorem F_Mo_step_18 : fetch m_Mo_step 18 = some (.lcmp) := by decide +kernel
theorem F_Mo_step_19 : fetch m_Mo_step 19 = some (.ifCond .lt 12) := by decide +kernel
theorem F_Mo_step_22 : fetch m_Mo_step 22 = some (.aload_n 0) := by decide +kernel
theorem F_Mo_step_23 : fetch m_Mo_step 23 = some (.getfield 212) := by decide +kernel
theorem F_Mo_step_26 : fetch m_Mo_step 26 = some (.lconst 0) := by decide +kernel
theorem F_Mo_step_27 : fetch m_Mo_step 27 = some (.lcmp) := by decide +kernel
theorem F_Mo_step_28 : fetch m_Mo_step 28 = some (.ifCond .gt 7) := by decide +kernel
theorem F_Mo_step_31 : fetch m_Mo_step 31 = some (.iconst 2) := by decide +kernel
theorem F_Mo_step_32 : fetch m_Mo_step 32 = some (.goto 17) := by decide +kernel
theorem F_Mo_step_35 : fetch m_Mo_step 35 = some (.aload_n 0) := by decide +kernel
theorem F_Mo_step_36 : fetch m_Mo_step 36 = some (.getfield 242) := by decide +kernel
theorem F_Mo_step_39 : fetch m_Mo_step 39 = some (.bipush 12) := by decide +kernel
theorem F_Mo_step_41 : fetch m_Mo_step 41 = some (.if_icmp .ne 7) := by decide +kernel
theorem F_Mo_step_44 : fetch m_Mo_step 44 = some (.iconst 3) := by decide +kernel
theorem F_Mo_step_45 : fetch m_Mo_step 45 = some (.goto 4) := by decide +kernel
theorem F_Mo_step_48 : fetch m_Mo_step 48 = some (.iconst 0) := by decide +kernel
theorem F_Mo_step_49 : fetch m_Mo_step 49 = some (.putfield 178) := by decide +kernel
theorem F_Mo_step_52 : fetch m_Mo_step 52 = some (.aload_n 0) := by decide +kernel
theorem F_Mo_step_53 : fetch m_Mo_step 53 = some (.getfield 178) := by decide +kernel
theorem F_Mo_step_56 : fetch m_Mo_step 56 = some (.ifCond .le 5) := by decide +kernel
theorem F_Mo_step_59 : fetch m_Mo_step 59 = some (.iconst 0) := by decide +kernel
theorem F_Mo_step_60 : fetch m_Mo_step 60 = some (.ireturn) := by decide +kernel
theorem F_Mo_step_61 : fetch m_Mo_step 61 = some (.aload_n 0) := by decide +kernel
theorem F_Mo_step_62 : fetch m_Mo_step 62 = some (.getfield 93) := by decide +kernel
theorem F_Mo_step_65 : fetch m_Mo_step 65 = some (.aload_n 0) := by decide +kernel
theorem F_Mo_step_66 : fetch m_Mo_step 66 = some (.getfield 242) := by decide +kernel
theorem F_Mo_step_69 : fetch m_Mo_step 69 = some (.iload_n 1) := by decide +kernel
theorem F_Mo_step_70 : fetch m_Mo_step 70 = some (.iastore) := by decide +kernel
theorem F_Mo_step_71 : fetch m_Mo_step 71 = some (.aload_n 0) := by decide +kernel
theorem F_Mo_step_72 : fetch m_Mo_step 72 = some (.getfield 96) := by decide +kernel
theorem F_Mo_step_75 : fetch m_Mo_step 75 = some (.aload_n 0) := by decide +kernel
theorem F_Mo_step_76 : fetch m_Mo_step 76 = some (.getfield 242) := by decide +kernel
theorem F_Mo_step_79 : fetch m_Mo_step 79 = some (.aload_n 0) := by decide +kernel
theorem F_Mo_step_80 : fetch m_Mo_step 80 = some (.getfield 215) := by decide +kernel
theorem F_Mo_step_83 : fetch m_Mo_step 83 = some (.lastore) := by decide +kernel
theorem F_Mo_step_84 : fetch m_Mo_step 84 = some (.aload_n 0) := by decide +kernel
theorem F_Mo_step_85 : fetch m_Mo_step 85 = some (.getfield 99) := by decide +kernel
theorem F_Mo_step_88 : fetch m_Mo_step 88 = some (.aload_n 0) := by decide +kernel
theorem F_Mo_step_89 : fetch m_Mo_step 89 = some (.getfield 242) := by decide +kernel
theorem F_Mo_step_92 : fetch m_Mo_step 92 = some (.aload_n 0) := by decide +kernel
theorem F_Mo_step_93 : fetch m_Mo_step 93 = some (.getfield 13) := by decide +kernel
theorem F_Mo_step_96 : fetch m_Mo_step 96 = some (.lastore) := by decide +kernel
theorem F_Mo_step_97 : fetch m_Mo_step 97 = some (.aload_n 0) := by decide +kernel
theorem F_Mo_step_98 : fetch m_Mo_step 98 = some (.getfield 102) := by decide +kernel
theorem F_Mo_step_101 : fetch m_Mo_step 101 = some (.aload_n 0) := by decide +kernel
theorem F_Mo_step_102 : fetch m_Mo_step 102 = some (.getfield 242) := by decide +kernel
theorem F_Mo_step_105 : fetch m_Mo_step 105 = some (.aload_n 0) := by decide +kernel
theorem F_Mo_step_106 : fetch m_Mo_step 106 = some (.getfield 212) := by decide +kernel
theorem F_Mo_step_109 : fetch m_Mo_step 109 = some (.lastore) := by decide +kernel
theorem F_Mo_step_110 : fetch m_Mo_step 110 = some (.aload_n 0) := by decide +kernel
theorem F_Mo_step_111 : fetch m_Mo_step 111 = some (.getfield 105) := by decide +kernel
theorem F_Mo_step_114 : fetch m_Mo_step 114 = some (.aload_n 0) := by decide +kernel
theorem F_Mo_step_115 : fetch m_Mo_step 115 = some (.getfield 242) := by decide +kernel
theorem F_Mo_step_118 : fetch m_Mo_step 118 = some (.aload_n 0) := by decide +kernel
theorem F_Mo_step_119 : fetch m_Mo_step 119 = some (.getfield 7) := by decide +kernel
theorem F_Mo_step_122 : fetch m_Mo_step 122 = some (.lastore) := by decide +kernel
theorem F_Mo_step_123 : fetch m_Mo_step 123 = some (.aload_n 0) := by decide +kernel
theorem F_Mo_step_124 : fetch m_Mo_step 124 = some (.dup) := by decide +kernel
theorem F_Mo_step_125 : fetch m_Mo_step 125 = some (.getfield 242) := by decide +kernel
theorem F_Mo_step_128 : fetch m_Mo_step 128 = some (.iconst 1) := by decide +kernel
theorem F_Mo_step_129 : fetch m_Mo_step 129 = some (.iadd) := by decide +kernel
theorem F_Mo_step_130 : fetch m_Mo_step 130 = some (.putfield 242) := by decide +kernel
theorem F_Mo_step_133 : fetch m_Mo_step 133 = some (.aload_n 0) := by decide +kernel
theorem F_Mo_step_134 : fetch m_Mo_step 134 = some (.getfield 242) := by decide +kernel
theorem F_Mo_step_137 : fetch m_Mo_step 137 = some (.iconst 1) := by decide +kernel
theorem F_Mo_step_138 : fetch m_Mo_step 138 = some (.isub) := by decide +kernel
theorem F_Mo_step_139 : fetch m_Mo_step 139 = some (.ireturn) := by decide +kernel
theorem F_Mo_clear_0 : fetch m_Mo_clear 0 = some (.aload_n 0) := by decide +kernel
theorem F_Mo_clear_1 : fetch m_Mo_clear 1 = some (.iconst 0) := by decide +kernel
theorem F_Mo_clear_2 : fetch m_Mo_clear 2 = some (.putfield 178) := by decide +kernel
theorem F_Mo_clear_5 : fetch m_Mo_clear 5 = some (.aload_n 0) := by decide +kernel
theorem F_Mo_clear_6 : fetch m_Mo_clear 6 = some (.iconst 0) := by decide +kernel
theorem F_Mo_clear_7 : fetch m_Mo_clear 7 = some (.putfield 242) := by decide +kernel
theorem F_Mo_clear_10 : fetch m_Mo_clear 10 = some (.aload_n 0) := by decide +kernel
theorem F_Mo_clear_11 : fetch m_Mo_clear 11 = some (.iconst 0) := by decide +kernel
theorem F_Mo_clear_12 : fetch m_Mo_clear 12 = some (.putfield 245) := by decide +kernel
theorem F_Mo_clear_15 : fetch m_Mo_clear 15 = some (.return_) := by decide +kernel
theorem F_Mo_judge_0 : fetch m_Mo_judge 0 = some (.aload_n 0) := by decide +kernel
theorem F_Mo_judge_1 : fetch m_Mo_judge 1 = some (.iconst 0) := by decide +kernel
theorem F_Mo_judge_2 : fetch m_Mo_judge 2 = some (.putfield 178) := by decide +kernel
theorem F_Mo_judge_5 : fetch m_Mo_judge 5 = some (.aload_n 0) := by decide +kernel
theorem F_Mo_judge_6 : fetch m_Mo_judge 6 = some (.invokevirtual 327) := by decide +kernel
theorem F_Mo_judge_9 : fetch m_Mo_judge 9 = some (.aload_n 0) := by decide +kernel
theorem F_Mo_judge_10 : fetch m_Mo_judge 10 = some (.invokevirtual 330) := by decide +kernel
theorem F_Mo_judge_13 : fetch m_Mo_judge 13 = some (.aload_n 0) := by decide +kernel
theorem F_Mo_judge_14 : fetch m_Mo_judge 14 = some (.invokevirtual 333) := by decide +kernel
theorem F_Mo_judge_17 : fetch m_Mo_judge 17 = some (.iconst 0) := by decide +kernel
theorem F_Mo_judge_18 : fetch m_Mo_judge 18 = some (.istore_n 1) := by decide +kernel
theorem F_Mo_judge_19 : fetch m_Mo_judge 19 = some (.iload_n 1) := by decide +kernel
theorem F_Mo_judge_20 : fetch m_Mo_judge 20 = some (.bipush 24) := by decide +kernel
theorem F_Mo_judge_22 : fetch m_Mo_judge 22 = some (.if_icmp .ge 16) := by decide +kernel
theorem F_Mo_judge_25 : fetch m_Mo_judge 25 = some (.aload_n 0) := by decide +kernel
theorem F_Mo_judge_26 : fetch m_Mo_judge 26 = some (.getfield 157) := by decide +kernel
theorem F_Mo_judge_29 : fetch m_Mo_judge 29 = some (.iload_n 1) := by decide +kernel
theorem F_Mo_judge_30 : fetch m_Mo_judge 30 = some (.iconst 0) := by decide +kernel
theorem F_Mo_judge_31 : fetch m_Mo_judge 31 = some (.bastore) := by decide +kernel
theorem F_Mo_judge_32 : fetch m_Mo_judge 32 = some (.iinc 1 1) := by decide +kernel
theorem F_Mo_judge_35 : fetch m_Mo_judge 35 = some (.goto (-16)) := by decide +kernel
theorem F_Mo_judge_38 : fetch m_Mo_judge 38 = some (.iconst 0) := by decide +kernel
theorem F_Mo_judge_39 : fetch m_Mo_judge 39 = some (.istore_n 1) := by decide +kernel
theorem F_Mo_judge_40 : fetch m_Mo_judge 40 = some (.iload_n 1) := by decide +kernel
theorem F_Mo_judge_41 : fetch m_Mo_judge 41 = some (.ifCond .ne 18) := by decide +kernel
theorem F_Mo_judge_44 : fetch m_Mo_judge 44 = some (.aload_n 0) := by decide +kernel
theorem F_Mo_judge_45 : fetch m_Mo_judge 45 = some (.invokevirtual 336) := by decide +kernel
theorem F_Mo_judge_48 : fetch m_Mo_judge 48 = some (.ifCond .eq 11) := by decide +kernel
theorem F_Mo_judge_51 : fetch m_Mo_judge 51 = some (.aload_n 0) := by decide +kernel
theorem F_Mo_judge_52 : fetch m_Mo_judge 52 = some (.invokevirtual 340) := by decide +kernel
theorem F_Mo_judge_55 : fetch m_Mo_judge 55 = some (.istore_n 1) := by decide +kernel
theorem F_Mo_judge_56 : fetch m_Mo_judge 56 = some (.goto (-16)) := by decide +kernel
theorem F_Mo_judge_59 : fetch m_Mo_judge 59 = some (.iload_n 1) := by decide +kernel
theorem F_Mo_judge_60 : fetch m_Mo_judge 60 = some (.ifCond .ne 13) := by decide +kernel
theorem F_Mo_judge_63 : fetch m_Mo_judge 63 = some (.aload_n 0) := by decide +kernel
theorem F_Mo_judge_64 : fetch m_Mo_judge 64 = some (.invokevirtual 344) := by decide +kernel
theorem F_Mo_judge_67 : fetch m_Mo_judge 67 = some (.ifCond .ne 6) := by decide +kernel
theorem F_Mo_judge_70 : fetch m_Mo_judge 70 = some (.bipush 6) := by decide +kernel
theorem F_Mo_judge_72 : fetch m_Mo_judge 72 = some (.istore_n 1) := by decide +kernel
theorem F_Mo_judge_73 : fetch m_Mo_judge 73 = some (.aload_n 0) := by decide +kernel
theorem F_Mo_judge_74 : fetch m_Mo_judge 74 = some (.iload_n 1) := by decide +kernel
theorem F_Mo_judge_75 : fetch m_Mo_judge 75 = some (.invokevirtual 347) := by decide +kernel
theorem F_Mo_judge_78 : fetch m_Mo_judge 78 = some (.iload_n 1) := by decide +kernel
theorem F_Mo_judge_79 : fetch m_Mo_judge 79 = some (.ireturn) := by decide +kernel
theorem F_Mo_takePlan_0 : fetch m_Mo_takePlan 0 = some (.aload_n 0) := by decide +kernel
theorem F_Mo_takePlan_1 : fetch m_Mo_takePlan 1 = some (.aload_n 0) := by decide +kernel
theorem F_Mo_takePlan_2 : fetch m_Mo_takePlan 2 = some (.getfield 242) := by decide +kernel
theorem F_Mo_takePlan_5 : fetch m_Mo_takePlan 5 = some (.putfield 280) := by decide +kernel
theorem F_Mo_takePlan_8 : fetch m_Mo_takePlan 8 = some (.aload_n 0) := by decide +kernel
theorem F_Mo_takePlan_9 : fetch m_Mo_takePlan 9 = some (.aload_n 0) := by decide +kernel
theorem F_Mo_takePlan_10 : fetch m_Mo_takePlan 10 = some (.getfield 245) := by decide +kernel
theorem F_Mo_takePlan_13 : fetch m_Mo_takePlan 13 = some (.putfield 283) := by decide +kernel
theorem F_Mo_takePlan_16 : fetch m_Mo_takePlan 16 = some (.iconst 0) := by decide +kernel
theorem F_Mo_takePlan_17 : fetch m_Mo_takePlan 17 = some (.istore_n 1) := by decide +kernel
theorem F_Mo_takePlan_18 : fetch m_Mo_takePlan 18 = some (.iload_n 1) := by decide +kernel
theorem F_Mo_takePlan_19 : fetch m_Mo_takePlan 19 = some (.aload_n 0) := by decide +kernel
theorem F_Mo_takePlan_20 : fetch m_Mo_takePlan 20 = some (.getfield 242) := by decide +kernel
theorem F_Mo_takePlan_23 : fetch m_Mo_takePlan 23 = some (.if_icmp .ge 21) := by decide +kernel
theorem F_Mo_takePlan_26 : fetch m_Mo_takePlan 26 = some (.aload_n 0) := by decide +kernel
theorem F_Mo_takePlan_27 : fetch m_Mo_takePlan 27 = some (.getfield 111) := by decide +kernel
theorem F_Mo_takePlan_30 : fetch m_Mo_takePlan 30 = some (.iload_n 1) := by decide +kernel
theorem F_Mo_takePlan_31 : fetch m_Mo_takePlan 31 = some (.aload_n 0) := by decide +kernel
theorem F_Mo_takePlan_32 : fetch m_Mo_takePlan 32 = some (.getfield 93) := by decide +kernel
theorem F_Mo_takePlan_35 : fetch m_Mo_takePlan 35 = some (.iload_n 1) := by decide +kernel
theorem F_Mo_takePlan_36 : fetch m_Mo_takePlan 36 = some (.iaload) := by decide +kernel
theorem F_Mo_takePlan_37 : fetch m_Mo_takePlan 37 = some (.iastore) := by decide +kernel
theorem F_Mo_takePlan_38 : fetch m_Mo_takePlan 38 = some (.iinc 1 1) := by decide +kernel
theorem F_Mo_takePlan_41 : fetch m_Mo_takePlan 41 = some (.goto (-23)) := by decide +kernel
theorem F_Mo_takePlan_44 : fetch m_Mo_takePlan 44 = some (.iconst 0) := by decide +kernel
theorem F_Mo_takePlan_45 : fetch m_Mo_takePlan 45 = some (.istore_n 1) := by decide +kernel
theorem F_Mo_takePlan_46 : fetch m_Mo_takePlan 46 = some (.iload_n 1) := by decide +kernel
theorem F_Mo_takePlan_47 : fetch m_Mo_takePlan 47 = some (.aload_n 0) := by decide +kernel
theorem F_Mo_takePlan_48 : fetch m_Mo_takePlan 48 = some (.getfield 245) := by decide +kernel
theorem F_Mo_takePlan_51 : fetch m_Mo_takePlan 51 = some (.if_icmp .ge 21) := by decide +kernel
theorem F_Mo_takePlan_54 : fetch m_Mo_takePlan 54 = some (.aload_n 0) := by decide +kernel
theorem F_Mo_takePlan_55 : fetch m_Mo_takePlan 55 = some (.getfield 114) := by decide +kernel
theorem F_Mo_takePlan_58 : fetch m_Mo_takePlan 58 = some (.iload_n 1) := by decide +kernel
theorem F_Mo_takePlan_59 : fetch m_Mo_takePlan 59 = some (.aload_n 0) := by decide +kernel
theorem F_Mo_takePlan_60 : fetch m_Mo_takePlan 60 = some (.getfield 108) := by decide +kernel
theorem F_Mo_takePlan_63 : fetch m_Mo_takePlan 63 = some (.iload_n 1) := by decide +kernel
theorem F_Mo_takePlan_64 : fetch m_Mo_takePlan 64 = some (.iaload) := by decide +kernel
theorem F_Mo_takePlan_65 : fetch m_Mo_takePlan 65 = some (.iastore) := by decide +kernel
theorem F_Mo_takePlan_66 : fetch m_Mo_takePlan 66 = some (.iinc 1 1) := by decide +kernel
theorem F_Mo_takePlan_69 : fetch m_Mo_takePlan 69 = some (.goto (-23)) := by decide +kernel
theorem F_Mo_takePlan_72 : fetch m_Mo_takePlan 72 = some (.return_) := by decide +kernel
theorem F_Mo_takeTimes_0 : fetch m_Mo_takeTimes 0 = some (.iconst 0) := by decide +kernel
theorem F_Mo_takeTimes_1 : fetch m_Mo_takeTimes 1 = some (.istore_n 1) := by decide +kernel
theorem F_Mo_takeTimes_2 : fetch m_Mo_takeTimes 2 = some (.iload_n 1) := by decide +kernel
theorem F_Mo_takeTimes_3 : fetch m_Mo_takeTimes 3 = some (.aload_n 0) := by decide +kernel
theorem F_Mo_takeTimes_4 : fetch m_Mo_takeTimes 4 = some (.getfield 242) := by decide +kernel
theorem F_Mo_takeTimes_7 : fetch m_Mo_takeTimes 7 = some (.if_icmp .ge 109) := by decide +kernel
theorem F_Mo_takeTimes_10 : fetch m_Mo_takeTimes 10 = some (.aload_n 0) := by decide +kernel
theorem F_Mo_takeTimes_11 : fetch m_Mo_takeTimes 11 = some (.getfield 151) := by decide +kernel
theorem F_Mo_takeTimes_14 : fetch m_Mo_takeTimes 14 = some (.iconst 2) := by decide +kernel
theorem F_Mo_takeTimes_15 : fetch m_Mo_takeTimes 15 = some (.iload_n 1) := by decide +kernel
theorem F_Mo_takeTimes_16 : fetch m_Mo_takeTimes 16 = some (.imul) := by decide +kernel
theorem F_Mo_takeTimes_17 : fetch m_Mo_takeTimes 17 = some (.aload_n 0) := by decide +kernel
theorem F_Mo_takeTimes_18 : fetch m_Mo_takeTimes 18 = some (.getfield 96) := by decide +kernel
theorem F_Mo_takeTimes_21 : fetch m_Mo_takeTimes 21 = some (.iload_n 1) := by decide +kernel
theorem F_Mo_takeTimes_22 : fetch m_Mo_takeTimes 22 = some (.laload) := by decide +kernel
theorem F_Mo_takeTimes_23 : fetch m_Mo_takeTimes 23 = some (.lastore) := by decide +kernel
theorem F_Mo_takeTimes_24 : fetch m_Mo_takeTimes 24 = some (.aload_n 0) := by decide +kernel
theorem F_Mo_takeTimes_25 : fetch m_Mo_takeTimes 25 = some (.getfield 154) := by decide +kernel
theorem F_Mo_takeTimes_28 : fetch m_Mo_takeTimes 28 = some (.iconst 2) := by decide +kernel
theorem F_Mo_takeTimes_29 : fetch m_Mo_takeTimes 29 = some (.iload_n 1) := by decide +kernel
theorem F_Mo_takeTimes_30 : fetch m_Mo_takeTimes 30 = some (.imul) := by decide +kernel
theorem F_Mo_takeTimes_31 : fetch m_Mo_takeTimes 31 = some (.aload_n 0) := by decide +kernel
theorem F_Mo_takeTimes_32 : fetch m_Mo_takeTimes 32 = some (.getfield 99) := by decide +kernel
theorem F_Mo_takeTimes_35 : fetch m_Mo_takeTimes 35 = some (.iload_n 1) := by decide +kernel
theorem F_Mo_takeTimes_36 : fetch m_Mo_takeTimes 36 = some (.laload) := by decide +kernel
theorem F_Mo_takeTimes_37 : fetch m_Mo_takeTimes 37 = some (.lastore) := by decide +kernel
theorem F_Mo_takeTimes_38 : fetch m_Mo_takeTimes 38 = some (.aload_n 0) := by decide +kernel
theorem F_Mo_takeTimes_39 : fetch m_Mo_takeTimes 39 = some (.aload_n 0) := by decide +kernel
theorem F_Mo_takeTimes_40 : fetch m_Mo_takeTimes 40 = some (.getfield 96) := by decide +kernel
theorem F_Mo_takeTimes_43 : fetch m_Mo_takeTimes 43 = some (.iload_n 1) := by decide +kernel
theorem F_Mo_takeTimes_44 : fetch m_Mo_takeTimes 44 = some (.laload) := by decide +kernel
theorem F_Mo_takeTimes_45 : fetch m_Mo_takeTimes 45 = some (.aload_n 0) := by decide +kernel
theorem F_Mo_takeTimes_46 : fetch m_Mo_takeTimes 46 = some (.getfield 105) := by decide +kernel
theorem F_Mo_takeTimes_49 : fetch m_Mo_takeTimes 49 = some (.iload_n 1) := by decide +kernel
theorem F_Mo_takeTimes_50 : fetch m_Mo_takeTimes 50 = some (.laload) := by decide +kernel
theorem F_Mo_takeTimes_51 : fetch m_Mo_takeTimes 51 = some (.lmul) := by decide +kernel
theorem F_Mo_takeTimes_52 : fetch m_Mo_takeTimes 52 = some (.aload_n 0) := by decide +kernel
theorem F_Mo_takeTimes_53 : fetch m_Mo_takeTimes 53 = some (.getfield 102) := by decide +kernel
theorem F_Mo_takeTimes_56 : fetch m_Mo_takeTimes 56 = some (.iload_n 1) := by decide +kernel
theorem F_Mo_takeTimes_57 : fetch m_Mo_takeTimes 57 = some (.laload) := by decide +kernel
theorem F_Mo_takeTimes_58 : fetch m_Mo_takeTimes 58 = some (.aload_n 0) := by decide +kernel
theorem F_Mo_takeTimes_59 : fetch m_Mo_takeTimes 59 = some (.getfield 99) := by decide +kernel
theorem F_Mo_takeTimes_62 : fetch m_Mo_takeTimes 62 = some (.iload_n 1) := by decide +kernel
theorem F_Mo_takeTimes_63 : fetch m_Mo_takeTimes 63 = some (.laload) := by decide +kernel
theorem F_Mo_takeTimes_64 : fetch m_Mo_takeTimes 64 = some (.lmul) := by decide +kernel
theorem F_Mo_takeTimes_65 : fetch m_Mo_takeTimes 65 = some (.ladd) := by decide +kernel
theorem F_Mo_takeTimes_66 : fetch m_Mo_takeTimes 66 = some (.aload_n 0) := by decide +kernel
theorem F_Mo_takeTimes_67 : fetch m_Mo_takeTimes 67 = some (.getfield 99) := by decide +kernel
theorem F_Mo_takeTimes_70 : fetch m_Mo_takeTimes 70 = some (.iload_n 1) := by decide +kernel
theorem F_Mo_takeTimes_71 : fetch m_Mo_takeTimes 71 = some (.laload) := by decide +kernel
theorem F_Mo_takeTimes_72 : fetch m_Mo_takeTimes 72 = some (.aload_n 0) := by decide +kernel
theorem F_Mo_takeTimes_73 : fetch m_Mo_takeTimes 73 = some (.getfield 105) := by decide +kernel
theorem F_Mo_takeTimes_76 : fetch m_Mo_takeTimes 76 = some (.iload_n 1) := by decide +kernel
theorem F_Mo_takeTimes_77 : fetch m_Mo_takeTimes 77 = some (.laload) := by decide +kernel
theorem F_Mo_takeTimes_78 : fetch m_Mo_takeTimes 78 = some (.lmul) := by decide +kernel
theorem F_Mo_takeTimes_79 : fetch m_Mo_takeTimes 79 = some (.invokevirtual 208) := by decide +kernel
theorem F_Mo_takeTimes_82 : fetch m_Mo_takeTimes 82 = some (.aload_n 0) := by decide +kernel
theorem F_Mo_takeTimes_83 : fetch m_Mo_takeTimes 83 = some (.getfield 151) := by decide +kernel
theorem F_Mo_takeTimes_86 : fetch m_Mo_takeTimes 86 = some (.iconst 2) := by decide +kernel
theorem F_Mo_takeTimes_87 : fetch m_Mo_takeTimes 87 = some (.iload_n 1) := by decide +kernel
theorem F_Mo_takeTimes_88 : fetch m_Mo_takeTimes 88 = some (.imul) := by decide +kernel
theorem F_Mo_takeTimes_89 : fetch m_Mo_takeTimes 89 = some (.iconst 1) := by decide +kernel
theorem F_Mo_takeTimes_90 : fetch m_Mo_takeTimes 90 = some (.iadd) := by decide +kernel
theorem F_Mo_takeTimes_91 : fetch m_Mo_takeTimes 91 = some (.aload_n 0) := by decide +kernel
theorem F_Mo_takeTimes_92 : fetch m_Mo_takeTimes 92 = some (.getfield 189) := by decide +kernel
theorem F_Mo_takeTimes_95 : fetch m_Mo_takeTimes 95 = some (.lastore) := by decide +kernel
theorem F_Mo_takeTimes_96 : fetch m_Mo_takeTimes 96 = some (.aload_n 0) := by decide +kernel
theorem F_Mo_takeTimes_97 : fetch m_Mo_takeTimes 97 = some (.getfield 154) := by decide +kernel
theorem F_Mo_takeTimes_100 : fetch m_Mo_takeTimes 100 = some (.iconst 2) := by decide +kernel
theorem F_Mo_takeTimes_101 : fetch m_Mo_takeTimes 101 = some (.iload_n 1) := by decide +kernel
theorem F_Mo_takeTimes_102 : fetch m_Mo_takeTimes 102 = some (.imul) := by decide +kernel
theorem F_Mo_takeTimes_103 : fetch m_Mo_takeTimes 103 = some (.iconst 1) := by decide +kernel
theorem F_Mo_takeTimes_104 : fetch m_Mo_takeTimes 104 = some (.iadd) := by decide +kernel
theorem F_Mo_takeTimes_105 : fetch m_Mo_takeTimes 105 = some (.aload_n 0) := by decide +kernel
theorem F_Mo_takeTimes_106 : fetch m_Mo_takeTimes 106 = some (.getfield 192) := by decide +kernel
theorem F_Mo_takeTimes_109 : fetch m_Mo_takeTimes 109 = some (.lastore) := by decide +kernel
theorem F_Mo_takeTimes_110 : fetch m_Mo_takeTimes 110 = some (.iinc 1 1) := by decide +kernel
theorem F_Mo_takeTimes_113 : fetch m_Mo_takeTimes 113 = some (.goto (-111)) := by decide +kernel
theorem F_Mo_takeTimes_116 : fetch m_Mo_takeTimes 116 = some (.return_) := by decide +kernel
theorem F_Mo_beginState_0 : fetch m_Mo_beginState 0 = some (.iconst 0) := by decide +kernel
theorem F_Mo_beginState_1 : fetch m_Mo_beginState 1 = some (.istore_n 1) := by decide +kernel
theorem F_Mo_beginState_2 : fetch m_Mo_beginState 2 = some (.iload_n 1) := by decide +kernel
theorem F_Mo_beginState_3 : fetch m_Mo_beginState 3 = some (.bipush 16) := by decide +kernel
theorem F_Mo_beginState_5 : fetch m_Mo_beginState 5 = some (.if_icmp .ge 21) := by decide +kernel
theorem F_Mo_beginState_8 : fetch m_Mo_beginState 8 = some (.aload_n 0) := by decide +kernel
theorem F_Mo_beginState_9 : fetch m_Mo_beginState 9 = some (.getfield 120) := by decide +kernel
theorem F_Mo_beginState_12 : fetch m_Mo_beginState 12 = some (.iload_n 1) := by decide +kernel
theorem F_Mo_beginState_13 : fetch m_Mo_beginState 13 = some (.aload_n 0) := by decide +kernel
theorem F_Mo_beginState_14 : fetch m_Mo_beginState 14 = some (.getfield 24) := by decide +kernel
theorem F_Mo_beginState_17 : fetch m_Mo_beginState 17 = some (.iload_n 1) := by decide +kernel
theorem F_Mo_beginState_18 : fetch m_Mo_beginState 18 = some (.baload) := by decide +kernel
theorem F_Mo_beginState_19 : fetch m_Mo_beginState 19 = some (.bastore) := by decide +kernel
theorem F_Mo_beginState_20 : fetch m_Mo_beginState 20 = some (.iinc 1 1) := by decide +kernel
theorem F_Mo_beginState_23 : fetch m_Mo_beginState 23 = some (.goto (-21)) := by decide +kernel
theorem F_Mo_beginState_26 : fetch m_Mo_beginState 26 = some (.iconst 0) := by decide +kernel
theorem F_Mo_beginState_27 : fetch m_Mo_beginState 27 = some (.istore_n 1) := by decide +kernel
theorem F_Mo_beginState_28 : fetch m_Mo_beginState 28 = some (.iload_n 1) := by decide +kernel
theorem F_Mo_beginState_29 : fetch m_Mo_beginState 29 = some (.bipush 8) := by decide +kernel
theorem F_Mo_beginState_31 : fetch m_Mo_beginState 31 = some (.if_icmp .ge 33) := by decide +kernel
theorem F_Mo_beginState_34 : fetch m_Mo_beginState 34 = some (.aload_n 0) := by decide +kernel
theorem F_Mo_beginState_35 : fetch m_Mo_beginState 35 = some (.getfield 123) := by decide +kernel
theorem F_Mo_beginState_38 : fetch m_Mo_beginState 38 = some (.iload_n 1) := by decide +kernel
theorem F_Mo_beginState_39 : fetch m_Mo_beginState 39 = some (.aload_n 0) := by decide +kernel
theorem F_Mo_beginState_40 : fetch m_Mo_beginState 40 = some (.getfield 28) := by decide +kernel
theorem F_Mo_beginState_43 : fetch m_Mo_beginState 43 = some (.iload_n 1) := by decide +kernel
theorem F_Mo_beginState_44 : fetch m_Mo_beginState 44 = some (.laload) := by decide +kernel
theorem F_Mo_beginState_45 : fetch m_Mo_beginState 45 = some (.lastore) := by decide +kernel
theorem F_Mo_beginState_46 : fetch m_Mo_beginState 46 = some (.aload_n 0) := by decide +kernel
theorem F_Mo_beginState_47 : fetch m_Mo_beginState 47 = some (.getfield 126) := by decide +kernel
theorem F_Mo_beginState_50 : fetch m_Mo_beginState 50 = some (.iload_n 1) := by decide +kernel
theorem F_Mo_beginState_51 : fetch m_Mo_beginState 51 = some (.aload_n 0) := by decide +kernel
theorem F_Mo_beginState_52 : fetch m_Mo_beginState 52 = some (.getfield 32) := by decide +kernel
theorem F_Mo_beginState_55 : fetch m_Mo_beginState 55 = some (.iload_n 1) := by decide +kernel
theorem F_Mo_beginState_56 : fetch m_Mo_beginState 56 = some (.laload) := by decide +kernel
theorem F_Mo_beginState_57 : fetch m_Mo_beginState 57 = some (.lastore) := by decide +kernel
theorem F_Mo_beginState_58 : fetch m_Mo_beginState 58 = some (.iinc 1 1) := by decide +kernel
theorem F_Mo_beginState_61 : fetch m_Mo_beginState 61 = some (.goto (-33)) := by decide +kernel
theorem F_Mo_beginState_64 : fetch m_Mo_beginState 64 = some (.return_) := by decide +kernel
theorem F_Mo_mark_0 : fetch m_Mo_mark 0 = some (.iconst (-1)) := by decide +kernel
theorem F_Mo_mark_1 : fetch m_Mo_mark 1 = some (.istore_n 1) := by decide +kernel
theorem F_Mo_mark_2 : fetch m_Mo_mark 2 = some (.iconst 0) := by decide +kernel
theorem F_Mo_mark_3 : fetch m_Mo_mark 3 = some (.istore_n 2) := by decide +kernel
theorem F_Mo_mark_4 : fetch m_Mo_mark 4 = some (.iload_n 2) := by decide +kernel
theorem F_Mo_mark_5 : fetch m_Mo_mark 5 = some (.iconst 2) := by decide +kernel
theorem F_Mo_mark_6 : fetch m_Mo_mark 6 = some (.aload_n 0) := by decide +kernel
theorem F_Mo_mark_7 : fetch m_Mo_mark 7 = some (.getfield 242) := by decide +kernel
theorem F_Mo_mark_10 : fetch m_Mo_mark 10 = some (.imul) := by decide +kernel
theorem F_Mo_mark_11 : fetch m_Mo_mark 11 = some (.if_icmp .ge 33) := by decide +kernel
theorem F_Mo_mark_14 : fetch m_Mo_mark 14 = some (.aload_n 0) := by decide +kernel
theorem F_Mo_mark_15 : fetch m_Mo_mark 15 = some (.getfield 157) := by decide +kernel
theorem F_Mo_mark_18 : fetch m_Mo_mark 18 = some (.iload_n 2) := by decide +kernel
theorem F_Mo_mark_19 : fetch m_Mo_mark 19 = some (.baload) := by decide +kernel
theorem F_Mo_mark_20 : fetch m_Mo_mark 20 = some (.ifCond .ne 18) := by decide +kernel
theorem F_Mo_mark_23 : fetch m_Mo_mark 23 = some (.iload_n 1) := by decide +kernel
theorem F_Mo_mark_24 : fetch m_Mo_mark 24 = some (.ifCond .lt 12) := by decide +kernel
theorem F_Mo_mark_27 : fetch m_Mo_mark 27 = some (.aload_n 0) := by decide +kernel
theorem F_Mo_mark_28 : fetch m_Mo_mark 28 = some (.iload_n 2) := by decide +kernel
theorem F_Mo_mark_29 : fetch m_Mo_mark 29 = some (.iload_n 1) := by decide +kernel
theorem F_Mo_mark_30 : fetch m_Mo_mark 30 = some (.invokevirtual 286) := by decide +kernel
theorem F_Mo_mark_33 : fetch m_Mo_mark 33 = some (.ifCond .ge 5) := by decide +kernel
theorem F_Mo_mark_36 : fetch m_Mo_mark 36 = some (.iload_n 2) := by decide +kernel
theorem F_Mo_mark_37 : fetch m_Mo_mark 37 = some (.istore_n 1) := by decide +kernel
theorem F_Mo_mark_38 : fetch m_Mo_mark 38 = some (.iinc 2 1) := by decide +kernel
theorem F_Mo_mark_41 : fetch m_Mo_mark 41 = some (.goto (-37)) := by decide +kernel
theorem F_Mo_mark_44 : fetch m_Mo_mark 44 = some (.iconst 0) := by decide +kernel
theorem F_Mo_mark_45 : fetch m_Mo_mark 45 = some (.istore_n 2) := by decide +kernel
theorem F_Mo_mark_46 : fetch m_Mo_mark 46 = some (.iload_n 2) := by decide +kernel
theorem F_Mo_mark_47 : fetch m_Mo_mark 47 = some (.iconst 2) := by decide +kernel
theorem F_Mo_mark_48 : fetch m_Mo_mark 48 = some (.aload_n 0) := by decide +kernel
theorem F_Mo_mark_49 : fetch m_Mo_mark 49 = some (.getfield 242) := by decide +kernel
theorem F_Mo_mark_52 : fetch m_Mo_mark 52 = some (.imul) := by decide +kernel
theorem F_Mo_mark_53 : fetch m_Mo_mark 53 = some (.if_icmp .ge 42) := by decide +kernel
theorem F_Mo_mark_56 : fetch m_Mo_mark 56 = some (.aload_n 0) := by decide +kernel
theorem F_Mo_mark_57 : fetch m_Mo_mark 57 = some (.getfield 160) := by decide +kernel
theorem F_Mo_mark_60 : fetch m_Mo_mark 60 = some (.iload_n 2) := by decide +kernel
theorem F_Mo_mark_61 : fetch m_Mo_mark 61 = some (.iload_n 1) := by decide +kernel
theorem F_Mo_mark_62 : fetch m_Mo_mark 62 = some (.ifCond .lt 25) := by decide +kernel
theorem F_Mo_mark_65 : fetch m_Mo_mark 65 = some (.aload_n 0) := by decide +kernel
theorem F_Mo_mark_66 : fetch m_Mo_mark 66 = some (.getfield 157) := by decide +kernel
theorem F_Mo_mark_69 : fetch m_Mo_mark 69 = some (.iload_n 2) := by decide +kernel
theorem F_Mo_mark_70 : fetch m_Mo_mark 70 = some (.baload) := by decide +kernel
theorem F_Mo_mark_71 : fetch m_Mo_mark 71 = some (.ifCond .ne 16) := by decide +kernel
theorem F_Mo_mark_74 : fetch m_Mo_mark 74 = some (.aload_n 0) := by decide +kernel
theorem F_Mo_mark_75 : fetch m_Mo_mark 75 = some (.iload_n 2) := by decide +kernel
theorem F_Mo_mark_76 : fetch m_Mo_mark 76 = some (.iload_n 1) := by decide +kernel
theorem F_Mo_mark_77 : fetch m_Mo_mark 77 = some (.invokevirtual 286) := by decide +kernel
theorem F_Mo_mark_80 : fetch m_Mo_mark 80 = some (.ifCond .ne 7) := by decide +kernel
theorem F_Mo_mark_83 : fetch m_Mo_mark 83 = some (.iconst 1) := by decide +kernel
theorem F_Mo_mark_84 : fetch m_Mo_mark 84 = some (.goto 4) := by decide +kernel
theorem F_Mo_mark_87 : fetch m_Mo_mark 87 = some (.iconst 0) := by decide +kernel
theorem F_Mo_mark_88 : fetch m_Mo_mark 88 = some (.bastore) := by decide +kernel
theorem F_Mo_mark_89 : fetch m_Mo_mark 89 = some (.iinc 2 1) := by decide +kernel
theorem F_Mo_mark_92 : fetch m_Mo_mark 92 = some (.goto (-46)) := by decide +kernel
theorem F_Mo_mark_95 : fetch m_Mo_mark 95 = some (.iload_n 1) := by decide +kernel
theorem F_Mo_mark_96 : fetch m_Mo_mark 96 = some (.ifCond .lt 7) := by decide +kernel
theorem F_Mo_mark_99 : fetch m_Mo_mark 99 = some (.iconst 1) := by decide +kernel
theorem F_Mo_mark_100 : fetch m_Mo_mark 100 = some (.goto 4) := by decide +kernel
theorem F_Mo_mark_103 : fetch m_Mo_mark 103 = some (.iconst 0) := by decide +kernel
theorem F_Mo_mark_104 : fetch m_Mo_mark 104 = some (.ireturn) := by decide +kernel
theorem F_Mo_orderOf_0 : fetch m_Mo_orderOf 0 = some (.aload_n 0) := by decide +kernel
theorem F_Mo_orderOf_1 : fetch m_Mo_orderOf 1 = some (.getfield 151) := by decide +kernel
theorem F_Mo_orderOf_4 : fetch m_Mo_orderOf 4 = some (.iload_n 1) := by decide +kernel
theorem F_Mo_orderOf_5 : fetch m_Mo_orderOf 5 = some (.laload) := by decide +kernel
theorem F_Mo_orderOf_6 : fetch m_Mo_orderOf 6 = some (.aload_n 0) := by decide +kernel
theorem F_Mo_orderOf_7 : fetch m_Mo_orderOf 7 = some (.getfield 154) := by decide +kernel
theorem F_Mo_orderOf_10 : fetch m_Mo_orderOf 10 = some (.iload_n 1) := by decide +kernel
theorem F_Mo_orderOf_11 : fetch m_Mo_orderOf 11 = some (.laload) := by decide +kernel
theorem F_Mo_orderOf_12 : fetch m_Mo_orderOf 12 = some (.aload_n 0) := by decide +kernel
theorem F_Mo_orderOf_13 : fetch m_Mo_orderOf 13 = some (.getfield 151) := by decide +kernel
theorem F_Mo_orderOf_16 : fetch m_Mo_orderOf 16 = some (.iload_n 2) := by decide +kernel
theorem F_Mo_orderOf_17 : fetch m_Mo_orderOf 17 = some (.laload) := by decide +kernel
theorem F_Mo_orderOf_18 : fetch m_Mo_orderOf 18 = some (.aload_n 0) := by decide +kernel
theorem F_Mo_orderOf_19 : fetch m_Mo_orderOf 19 = some (.getfield 154) := by decide +kernel
theorem F_Mo_orderOf_22 : fetch m_Mo_orderOf 22 = some (.iload_n 2) := by decide +kernel
theorem F_Mo_orderOf_23 : fetch m_Mo_orderOf 23 = some (.laload) := by decide +kernel
theorem F_Mo_orderOf_24 : fetch m_Mo_orderOf 24 = some (.invokestatic 264) := by decide +kernel
theorem F_Mo_orderOf_27 : fetch m_Mo_orderOf 27 = some (.ireturn) := by decide +kernel
theorem F_Mo_order_0 : fetch m_Mo_order 0 = some (.lload_n 0) := by decide +kernel
theorem F_Mo_order_1 : fetch m_Mo_order 1 = some (.lstore 8) := by decide +kernel
theorem F_Mo_order_3 : fetch m_Mo_order 3 = some (.lload_n 2) := by decide +kernel
theorem F_Mo_order_4 : fetch m_Mo_order 4 = some (.lstore 10) := by decide +kernel
theorem F_Mo_order_6 : fetch m_Mo_order 6 = some (.lload 4) := by decide +kernel
theorem F_Mo_order_8 : fetch m_Mo_order 8 = some (.lstore 12) := by decide +kernel
theorem F_Mo_order_10 : fetch m_Mo_order 10 = some (.lload 6) := by decide +kernel
theorem F_Mo_order_12 : fetch m_Mo_order 12 = some (.lstore 14) := by decide +kernel
theorem F_Mo_order_14 : fetch m_Mo_order 14 = some (.lload 8) := by decide +kernel
theorem F_Mo_order_16 : fetch m_Mo_order 16 = some (.lload 10) := by decide +kernel
theorem F_Mo_order_18 : fetch m_Mo_order 18 = some (.invokestatic 195) := by decide +kernel
theorem F_Mo_order_21 : fetch m_Mo_order 21 = some (.lstore 16) := by decide +kernel
theorem F_Mo_order_23 : fetch m_Mo_order 23 = some (.lload 12) := by decide +kernel
theorem F_Mo_order_25 : fetch m_Mo_order 25 = some (.lload 14) := by decide +kernel
theorem F_Mo_order_27 : fetch m_Mo_order 27 = some (.invokestatic 195) := by decide +kernel
theorem F_Mo_order_30 : fetch m_Mo_order 30 = some (.lstore 18) := by decide +kernel
theorem F_Mo_order_32 : fetch m_Mo_order 32 = some (.lload 16) := by decide +kernel
theorem F_Mo_order_34 : fetch m_Mo_order 34 = some (.lload 18) := by decide +kernel
theorem F_Mo_order_36 : fetch m_Mo_order 36 = some (.lcmp) := by decide +kernel
theorem F_Mo_order_37 : fetch m_Mo_order 37 = some (.ifCond .eq 17) := by decide +kernel
theorem F_Mo_order_40 : fetch m_Mo_order 40 = some (.lload 16) := by decide +kernel
theorem F_Mo_order_42 : fetch m_Mo_order 42 = some (.lload 18) := by decide +kernel
theorem F_Mo_order_44 : fetch m_Mo_order 44 = some (.lcmp) := by decide +kernel
theorem F_Mo_order_45 : fetch m_Mo_order 45 = some (.ifCond .ge 7) := by decide +kernel
theorem F_Mo_order_48 : fetch m_Mo_order 48 = some (.iconst (-1)) := by decide +kernel
theorem F_Mo_order_49 : fetch m_Mo_order 49 = some (.goto 4) := by decide +kernel
theorem F_Mo_order_52 : fetch m_Mo_order 52 = some (.iconst 1) := by decide +kernel
theorem F_Mo_order_53 : fetch m_Mo_order 53 = some (.ireturn) := by decide +kernel
theorem F_Mo_order_54 : fetch m_Mo_order 54 = some (.lload 8) := by decide +kernel
theorem F_Mo_order_56 : fetch m_Mo_order 56 = some (.lload 16) := by decide +kernel
theorem F_Mo_order_58 : fetch m_Mo_order 58 = some (.lload 10) := by decide +kernel
theorem F_Mo_order_60 : fetch m_Mo_order 60 = some (.lmul) := by decide +kernel
theorem F_Mo_order_61 : fetch m_Mo_order 61 = some (.lsub) := by decide +kernel
theorem F_Mo_order_62 : fetch m_Mo_order 62 = some (.lstore 20) := by decide +kernel
theorem F_Mo_order_64 : fetch m_Mo_order 64 = some (.lload 12) := by decide +kernel
theorem F_Mo_order_66 : fetch m_Mo_order 66 = some (.lload 18) := by decide +kernel
theorem F_Mo_order_68 : fetch m_Mo_order 68 = some (.lload 14) := by decide +kernel
theorem F_Mo_order_70 : fetch m_Mo_order 70 = some (.lmul) := by decide +kernel
theorem F_Mo_order_71 : fetch m_Mo_order 71 = some (.lsub) := by decide +kernel
theorem F_Mo_order_72 : fetch m_Mo_order 72 = some (.lstore 22) := by decide +kernel
theorem F_Mo_order_74 : fetch m_Mo_order 74 = some (.lload 20) := by decide +kernel
theorem F_Mo_order_76 : fetch m_Mo_order 76 = some (.lconst 0) := by decide +kernel
theorem F_Mo_order_77 : fetch m_Mo_order 77 = some (.lcmp) := by decide +kernel
theorem F_Mo_order_78 : fetch m_Mo_order 78 = some (.ifCond .eq 10) := by decide +kernel
theorem F_Mo_order_81 : fetch m_Mo_order 81 = some (.lload 22) := by decide +kernel
theorem F_Mo_order_83 : fetch m_Mo_order 83 = some (.lconst 0) := by decide +kernel
theorem F_Mo_order_84 : fetch m_Mo_order 84 = some (.lcmp) := by decide +kernel
theorem F_Mo_order_85 : fetch m_Mo_order 85 = some (.ifCond .ne 28) := by decide +kernel
theorem F_Mo_order_88 : fetch m_Mo_order 88 = some (.lload 20) := by decide +kernel
theorem F_Mo_order_90 : fetch m_Mo_order 90 = some (.lload 22) := by decide +kernel
theorem F_Mo_order_92 : fetch m_Mo_order 92 = some (.lcmp) := by decide +kernel
theorem F_Mo_order_93 : fetch m_Mo_order 93 = some (.ifCond .ne 7) := by decide +kernel
theorem F_Mo_order_96 : fetch m_Mo_order 96 = some (.iconst 0) := by decide +kernel
theorem F_Mo_order_97 : fetch m_Mo_order 97 = some (.goto 15) := by decide +kernel
theorem F_Mo_order_100 : fetch m_Mo_order 100 = some (.lload 20) := by decide +kernel
theorem F_Mo_order_102 : fetch m_Mo_order 102 = some (.lconst 0) := by decide +kernel
theorem F_Mo_order_103 : fetch m_Mo_order 103 = some (.lcmp) := by decide +kernel
theorem F_Mo_order_104 : fetch m_Mo_order 104 = some (.ifCond .ne 7) := by decide +kernel
theorem F_Mo_order_107 : fetch m_Mo_order 107 = some (.iconst (-1)) := by decide +kernel
theorem F_Mo_order_108 : fetch m_Mo_order 108 = some (.goto 4) := by decide +kernel
theorem F_Mo_order_111 : fetch m_Mo_order 111 = some (.iconst 1) := by decide +kernel
theorem F_Mo_order_112 : fetch m_Mo_order 112 = some (.ireturn) := by decide +kernel
theorem F_Mo_order_113 : fetch m_Mo_order 113 = some (.lload 14) := by decide +kernel
theorem F_Mo_order_115 : fetch m_Mo_order 115 = some (.lstore 8) := by decide +kernel
theorem F_Mo_order_117 : fetch m_Mo_order 117 = some (.lload 20) := by decide +kernel
theorem F_Mo_order_119 : fetch m_Mo_order 119 = some (.lstore 14) := by decide +kernel
theorem F_Mo_order_121 : fetch m_Mo_order 121 = some (.lload 10) := by decide +kernel
theorem F_Mo_order_123 : fetch m_Mo_order 123 = some (.lstore 12) := by decide +kernel
theorem F_Mo_order_125 : fetch m_Mo_order 125 = some (.lload 22) := by decide +kernel
theorem F_Mo_order_127 : fetch m_Mo_order 127 = some (.lstore 10) := by decide +kernel
theorem F_Mo_order_129 : fetch m_Mo_order 129 = some (.goto (-115)) := by decide +kernel
theorem F_Mo_floor_0 : fetch m_Mo_floor 0 = some (.lload_n 0) := by decide +kernel
theorem F_Mo_floor_1 : fetch m_Mo_floor 1 = some (.lload_n 2) := by decide +kernel
theorem F_Mo_floor_2 : fetch m_Mo_floor 2 = some (.ldiv) := by decide +kernel
theorem F_Mo_floor_3 : fetch m_Mo_floor 3 = some (.lstore 4) := by decide +kernel
theorem F_Mo_floor_5 : fetch m_Mo_floor 5 = some (.lload_n 0) := by decide +kernel
theorem F_Mo_floor_6 : fetch m_Mo_floor 6 = some (.lload_n 2) := by decide +kernel
theorem F_Mo_floor_7 : fetch m_Mo_floor 7 = some (.lrem) := by decide +kernel
theorem F_Mo_floor_8 : fetch m_Mo_floor 8 = some (.lconst 0) := by decide +kernel
theorem F_Mo_floor_9 : fetch m_Mo_floor 9 = some (.lcmp) := by decide +kernel
theorem F_Mo_floor_10 : fetch m_Mo_floor 10 = some (.ifCond .ge 10) := by decide +kernel
theorem F_Mo_floor_13 : fetch m_Mo_floor 13 = some (.lload 4) := by decide +kernel
theorem F_Mo_floor_15 : fetch m_Mo_floor 15 = some (.lconst 1) := by decide +kernel
theorem F_Mo_floor_16 : fetch m_Mo_floor 16 = some (.lsub) := by decide +kernel
theorem F_Mo_floor_17 : fetch m_Mo_floor 17 = some (.goto 5) := by decide +kernel
theorem F_Mo_floor_20 : fetch m_Mo_floor 20 = some (.lload 4) := by decide +kernel
theorem F_Mo_floor_22 : fetch m_Mo_floor 22 = some (.lreturn) := by decide +kernel
theorem F_Mo_passed_0 : fetch m_Mo_passed 0 = some (.iconst 1) := by decide +kernel
theorem F_Mo_passed_1 : fetch m_Mo_passed 1 = some (.istore_n 1) := by decide +kernel
theorem F_Mo_passed_2 : fetch m_Mo_passed 2 = some (.iload_n 1) := by decide +kernel
theorem F_Mo_passed_3 : fetch m_Mo_passed 3 = some (.iconst 4) := by decide +kernel
theorem F_Mo_passed_4 : fetch m_Mo_passed 4 = some (.if_icmp .ge 66) := by decide +kernel
theorem F_Mo_passed_7 : fetch m_Mo_passed 7 = some (.aload_n 0) := by decide +kernel
theorem F_Mo_passed_8 : fetch m_Mo_passed 8 = some (.iconst 0) := by decide +kernel
theorem F_Mo_passed_9 : fetch m_Mo_passed 9 = some (.putfield 305) := by decide +kernel
theorem F_Mo_passed_12 : fetch m_Mo_passed 12 = some (.aload_n 0) := by decide +kernel
theorem F_Mo_passed_13 : fetch m_Mo_passed 13 = some (.getfield 305) := by decide +kernel
theorem F_Mo_passed_16 : fetch m_Mo_passed 16 = some (.iconst 2) := by decide +kernel
theorem F_Mo_passed_17 : fetch m_Mo_passed 17 = some (.aload_n 0) := by decide +kernel
theorem F_Mo_passed_18 : fetch m_Mo_passed 18 = some (.getfield 242) := by decide +kernel
theorem F_Mo_passed_21 : fetch m_Mo_passed 21 = some (.imul) := by decide +kernel
theorem F_Mo_passed_22 : fetch m_Mo_passed 22 = some (.if_icmp .ge 42) := by decide +kernel
theorem F_Mo_passed_25 : fetch m_Mo_passed 25 = some (.aload_n 0) := by decide +kernel
theorem F_Mo_passed_26 : fetch m_Mo_passed 26 = some (.getfield 160) := by decide +kernel
theorem F_Mo_passed_29 : fetch m_Mo_passed 29 = some (.aload_n 0) := by decide +kernel
theorem F_Mo_passed_30 : fetch m_Mo_passed 30 = some (.getfield 305) := by decide +kernel
theorem F_Mo_passed_33 : fetch m_Mo_passed 33 = some (.baload) := by decide +kernel
theorem F_Mo_passed_34 : fetch m_Mo_passed 34 = some (.ifCond .eq 17) := by decide +kernel
theorem F_Mo_passed_37 : fetch m_Mo_passed 37 = some (.aload_n 0) := by decide +kernel
theorem F_Mo_passed_38 : fetch m_Mo_passed 38 = some (.aload_n 0) := by decide +kernel
theorem F_Mo_passed_39 : fetch m_Mo_passed 39 = some (.getfield 305) := by decide +kernel
theorem F_Mo_passed_42 : fetch m_Mo_passed 42 = some (.iload_n 1) := by decide +kernel
theorem F_Mo_passed_43 : fetch m_Mo_passed 43 = some (.invokevirtual 308) := by decide +kernel
theorem F_Mo_passed_46 : fetch m_Mo_passed 46 = some (.ifCond .eq 5) := by decide +kernel
theorem F_Mo_passed_49 : fetch m_Mo_passed 49 = some (.iload_n 1) := by decide +kernel
theorem F_Mo_passed_50 : fetch m_Mo_passed 50 = some (.ireturn) := by decide +kernel
theorem F_Mo_passed_51 : fetch m_Mo_passed 51 = some (.aload_n 0) := by decide +kernel
theorem F_Mo_passed_52 : fetch m_Mo_passed 52 = some (.dup) := by decide +kernel
theorem F_Mo_passed_53 : fetch m_Mo_passed 53 = some (.getfield 305) := by decide +kernel
theorem F_Mo_passed_56 : fetch m_Mo_passed 56 = some (.iconst 1) := by decide +kernel
theorem F_Mo_passed_57 : fetch m_Mo_passed 57 = some (.iadd) := by decide +kernel
theorem F_Mo_passed_58 : fetch m_Mo_passed 58 = some (.putfield 305) := by decide +kernel
theorem F_Mo_passed_61 : fetch m_Mo_passed 61 = some (.goto (-49)) := by decide +kernel
theorem F_Mo_passed_64 : fetch m_Mo_passed 64 = some (.iinc 1 1) := by decide +kernel
theorem F_Mo_passed_67 : fetch m_Mo_passed 67 = some (.goto (-65)) := by decide +kernel
theorem F_Mo_passed_70 : fetch m_Mo_passed 70 = some (.aload_n 0) := by decide +kernel
theorem F_Mo_passed_71 : fetch m_Mo_passed 71 = some (.invokevirtual 311) := by decide +kernel
theorem F_Mo_passed_74 : fetch m_Mo_passed 74 = some (.aload_n 0) := by decide +kernel
theorem F_Mo_passed_75 : fetch m_Mo_passed 75 = some (.iconst 0) := by decide +kernel
theorem F_Mo_passed_76 : fetch m_Mo_passed 76 = some (.putfield 305) := by decide +kernel
theorem F_Mo_passed_79 : fetch m_Mo_passed 79 = some (.aload_n 0) := by decide +kernel
theorem F_Mo_passed_80 : fetch m_Mo_passed 80 = some (.getfield 305) := by decide +kernel
theorem F_Mo_passed_83 : fetch m_Mo_passed 83 = some (.iconst 2) := by decide +kernel
theorem F_Mo_passed_84 : fetch m_Mo_passed 84 = some (.aload_n 0) := by decide +kernel
theorem F_Mo_passed_85 : fetch m_Mo_passed 85 = some (.getfield 242) := by decide +kernel
theorem F_Mo_passed_88 : fetch m_Mo_passed 88 = some (.imul) := by decide +kernel
theorem F_Mo_passed_89 : fetch m_Mo_passed 89 = some (.if_icmp .ge 48) := by decide +kernel
theorem F_Mo_passed_92 : fetch m_Mo_passed 92 = some (.aload_n 0) := by decide +kernel
theorem F_Mo_passed_93 : fetch m_Mo_passed 93 = some (.getfield 160) := by decide +kernel
theorem F_Mo_passed_96 : fetch m_Mo_passed 96 = some (.aload_n 0) := by decide +kernel
theorem F_Mo_passed_97 : fetch m_Mo_passed 97 = some (.getfield 305) := by decide +kernel
theorem F_Mo_passed_100 : fetch m_Mo_passed 100 = some (.baload) := by decide +kernel
theorem F_Mo_passed_101 : fetch m_Mo_passed 101 = some (.ifCond .eq 23) := by decide +kernel
theorem F_Mo_passed_104 : fetch m_Mo_passed 104 = some (.aload_n 0) := by decide +kernel
theorem F_Mo_passed_105 : fetch m_Mo_passed 105 = some (.aload_n 0) := by decide +kernel
theorem F_Mo_passed_106 : fetch m_Mo_passed 106 = some (.getfield 305) := by decide +kernel
theorem F_Mo_passed_109 : fetch m_Mo_passed 109 = some (.invokevirtual 314) := by decide +kernel
theorem F_Mo_passed_112 : fetch m_Mo_passed 112 = some (.ifCond .eq 6) := by decide +kernel
theorem F_Mo_passed_115 : fetch m_Mo_passed 115 = some (.goto 9) := by decide +kernel
theorem F_Mo_passed_118 : fetch m_Mo_passed 118 = some (.aload_n 0) := by decide +kernel
theorem F_Mo_passed_119 : fetch m_Mo_passed 119 = some (.invokevirtual 317) := by decide +kernel
theorem F_Mo_passed_122 : fetch m_Mo_passed 122 = some (.iconst 4) := by decide +kernel
theorem F_Mo_passed_123 : fetch m_Mo_passed 123 = some (.ireturn) := by decide +kernel
theorem F_Mo_passed_124 : fetch m_Mo_passed 124 = some (.aload_n 0) := by decide +kernel
theorem F_Mo_passed_125 : fetch m_Mo_passed 125 = some (.dup) := by decide +kernel
theorem F_Mo_passed_126 : fetch m_Mo_passed 126 = some (.getfield 305) := by decide +kernel
theorem F_Mo_passed_129 : fetch m_Mo_passed 129 = some (.iconst 1) := by decide +kernel
theorem F_Mo_passed_130 : fetch m_Mo_passed 130 = some (.iadd) := by decide +kernel
theorem F_Mo_passed_131 : fetch m_Mo_passed 131 = some (.putfield 305) := by decide +kernel
theorem F_Mo_passed_134 : fetch m_Mo_passed 134 = some (.goto (-55)) := by decide +kernel
theorem F_Mo_passed_137 : fetch m_Mo_passed 137 = some (.iconst 0) := by decide +kernel
theorem F_Mo_passed_138 : fetch m_Mo_passed 138 = some (.istore_n 1) := by decide +kernel
theorem F_Mo_passed_139 : fetch m_Mo_passed 139 = some (.iload_n 1) := by decide +kernel
theorem F_Mo_passed_140 : fetch m_Mo_passed 140 = some (.iconst 2) := by decide +kernel
theorem F_Mo_passed_141 : fetch m_Mo_passed 141 = some (.aload_n 0) := by decide +kernel
theorem F_Mo_passed_142 : fetch m_Mo_passed 142 = some (.getfield 242) := by decide +kernel
theorem F_Mo_passed_145 : fetch m_Mo_passed 145 = some (.imul) := by decide +kernel
theorem F_Mo_passed_146 : fetch m_Mo_passed 146 = some (.if_icmp .ge 38) := by decide +kernel
theorem F_Mo_passed_149 : fetch m_Mo_passed 149 = some (.aload_n 0) := by decide +kernel
theorem F_Mo_passed_150 : fetch m_Mo_passed 150 = some (.getfield 157) := by decide +kernel
theorem F_Mo_passed_153 : fetch m_Mo_passed 153 = some (.iload_n 1) := by decide +kernel
theorem F_Mo_passed_154 : fetch m_Mo_passed 154 = some (.aload_n 0) := by decide +kernel
theorem F_Mo_passed_155 : fetch m_Mo_passed 155 = some (.getfield 157) := by decide +kernel
theorem F_Mo_passed_158 : fetch m_Mo_passed 158 = some (.iload_n 1) := by decide +kernel
theorem F_Mo_passed_159 : fetch m_Mo_passed 159 = some (.baload) := by decide +kernel
theorem F_Mo_passed_160 : fetch m_Mo_passed 160 = some (.ifCond .ne 12) := by decide +kernel
theorem F_Mo_passed_163 : fetch m_Mo_passed 163 = some (.aload_n 0) := by decide +kernel
theorem F_Mo_passed_164 : fetch m_Mo_passed 164 = some (.getfield 160) := by decide +kernel
theorem F_Mo_passed_167 : fetch m_Mo_passed 167 = some (.iload_n 1) := by decide +kernel
theorem F_Mo_passed_168 : fetch m_Mo_passed 168 = some (.baload) := by decide +kernel
theorem F_Mo_passed_169 : fetch m_Mo_passed 169 = some (.ifCond .eq 7) := by decide +kernel
theorem F_Mo_passed_172 : fetch m_Mo_passed 172 = some (.iconst 1) := by decide +kernel
theorem F_Mo_passed_173 : fetch m_Mo_passed 173 = some (.goto 4) := by decide +kernel
theorem F_Mo_passed_176 : fetch m_Mo_passed 176 = some (.iconst 0) := by decide +kernel
theorem F_Mo_passed_177 : fetch m_Mo_passed 177 = some (.bastore) := by decide +kernel
theorem F_Mo_passed_178 : fetch m_Mo_passed 178 = some (.iinc 1 1) := by decide +kernel
theorem F_Mo_passed_181 : fetch m_Mo_passed 181 = some (.goto (-42)) := by decide +kernel
theorem F_Mo_passed_184 : fetch m_Mo_passed 184 = some (.iconst 0) := by decide +kernel
theorem F_Mo_passed_185 : fetch m_Mo_passed 185 = some (.istore_n 1) := by decide +kernel
theorem F_Mo_passed_186 : fetch m_Mo_passed 186 = some (.iload_n 1) := by decide +kernel
theorem F_Mo_passed_187 : fetch m_Mo_passed 187 = some (.aload_n 0) := by decide +kernel
theorem F_Mo_passed_188 : fetch m_Mo_passed 188 = some (.getfield 242) := by decide +kernel
theorem F_Mo_passed_191 : fetch m_Mo_passed 191 = some (.if_icmp .ge 51) := by decide +kernel
theorem F_Mo_passed_194 : fetch m_Mo_passed 194 = some (.aload_n 0) := by decide +kernel
theorem F_Mo_passed_195 : fetch m_Mo_passed 195 = some (.iconst 2) := by decide +kernel
theorem F_Mo_passed_196 : fetch m_Mo_passed 196 = some (.iload_n 1) := by decide +kernel
theorem F_Mo_passed_197 : fetch m_Mo_passed 197 = some (.imul) := by decide +kernel
theorem F_Mo_passed_198 : fetch m_Mo_passed 198 = some (.putfield 305) := by decide +kernel
theorem F_Mo_passed_201 : fetch m_Mo_passed 201 = some (.aload_n 0) := by decide +kernel
theorem F_Mo_passed_202 : fetch m_Mo_passed 202 = some (.getfield 157) := by decide +kernel
theorem F_Mo_passed_205 : fetch m_Mo_passed 205 = some (.iconst 2) := by decide +kernel
theorem F_Mo_passed_206 : fetch m_Mo_passed 206 = some (.iload_n 1) := by decide +kernel
theorem F_Mo_passed_207 : fetch m_Mo_passed 207 = some (.imul) := by decide +kernel
theorem F_Mo_passed_208 : fetch m_Mo_passed 208 = some (.baload) := by decide +kernel
theorem F_Mo_passed_209 : fetch m_Mo_passed 209 = some (.ifCond .eq 27) := by decide +kernel
theorem F_Mo_passed_212 : fetch m_Mo_passed 212 = some (.aload_n 0) := by decide +kernel
theorem F_Mo_passed_213 : fetch m_Mo_passed 213 = some (.getfield 157) := by decide +kernel
theorem F_Mo_passed_216 : fetch m_Mo_passed 216 = some (.iconst 2) := by decide +kernel
theorem F_Mo_passed_217 : fetch m_Mo_passed 217 = some (.iload_n 1) := by decide +kernel
theorem F_Mo_passed_218 : fetch m_Mo_passed 218 = some (.imul) := by decide +kernel
theorem F_Mo_passed_219 : fetch m_Mo_passed 219 = some (.iconst 1) := by decide +kernel
theorem F_Mo_passed_220 : fetch m_Mo_passed 220 = some (.iadd) := by decide +kernel
theorem F_Mo_passed_221 : fetch m_Mo_passed 221 = some (.baload) := by decide +kernel
theorem F_Mo_passed_222 : fetch m_Mo_passed 222 = some (.ifCond .ne 14) := by decide +kernel
theorem F_Mo_passed_225 : fetch m_Mo_passed 225 = some (.aload_n 0) := by decide +kernel
theorem F_Mo_passed_226 : fetch m_Mo_passed 226 = some (.iload_n 1) := by decide +kernel
theorem F_Mo_passed_227 : fetch m_Mo_passed 227 = some (.iconst 1) := by decide +kernel
theorem F_Mo_passed_228 : fetch m_Mo_passed 228 = some (.invokevirtual 299) := by decide +kernel
theorem F_Mo_passed_231 : fetch m_Mo_passed 231 = some (.ifCond .ne 5) := by decide +kernel
theorem F_Mo_passed_234 : fetch m_Mo_passed 234 = some (.iconst 5) := by decide +kernel
theorem F_Mo_passed_235 : fetch m_Mo_passed 235 = some (.ireturn) := by decide +kernel
theorem F_Mo_passed_236 : fetch m_Mo_passed 236 = some (.iinc 1 1) := by decide +kernel
theorem F_Mo_passed_239 : fetch m_Mo_passed 239 = some (.goto (-53)) := by decide +kernel
theorem F_Mo_passed_242 : fetch m_Mo_passed 242 = some (.iconst 0) := by decide +kernel
theorem F_Mo_passed_243 : fetch m_Mo_passed 243 = some (.ireturn) := by decide +kernel
theorem F_Mo_isWrong_0 : fetch m_Mo_isWrong 0 = some (.iload_n 2) := by decide +kernel
theorem F_Mo_isWrong_1 : fetch m_Mo_isWrong 1 = some (.iconst 1) := by decide +kernel
theorem F_Mo_isWrong_2 : fetch m_Mo_isWrong 2 = some (.if_icmp .ne 9) := by decide +kernel
theorem F_Mo_isWrong_5 : fetch m_Mo_isWrong 5 = some (.aload_n 0) := by decide +kernel
theorem F_Mo_isWrong_6 : fetch m_Mo_isWrong 6 = some (.iload_n 1) := by decide +kernel
theorem F_Mo_isWrong_7 : fetch m_Mo_isWrong 7 = some (.invokevirtual 296) := by decide +kernel
theorem F_Mo_isWrong_10 : fetch m_Mo_isWrong 10 = some (.ireturn) := by decide +kernel
theorem F_Mo_isWrong_11 : fetch m_Mo_isWrong 11 = some (.iload_n 2) := by decide +kernel
theorem F_Mo_isWrong_12 : fetch m_Mo_isWrong 12 = some (.iconst 2) := by decide +kernel
theorem F_Mo_isWrong_13 : fetch m_Mo_isWrong 13 = some (.if_icmp .ne 25) := by decide +kernel
theorem F_Mo_isWrong_16 : fetch m_Mo_isWrong 16 = some (.aload_n 0) := by decide +kernel
theorem F_Mo_isWrong_17 : fetch m_Mo_isWrong 17 = some (.iload_n 1) := by decide +kernel
theorem F_Mo_isWrong_18 : fetch m_Mo_isWrong 18 = some (.iconst 2) := by decide +kernel
theorem F_Mo_isWrong_19 : fetch m_Mo_isWrong 19 = some (.idiv) := by decide +kernel
theorem F_Mo_isWrong_20 : fetch m_Mo_isWrong 20 = some (.iload_n 1) := by decide +kernel
theorem F_Mo_isWrong_21 : fetch m_Mo_isWrong 21 = some (.invokestatic 248) := by decide +kernel
theorem F_Mo_isWrong_24 : fetch m_Mo_isWrong 24 = some (.invokevirtual 299) := by decide +kernel
theorem F_Mo_isWrong_27 : fetch m_Mo_isWrong 27 = some (.ifCond .ne 7) := by decide +kernel
theorem F_Mo_isWrong_30 : fetch m_Mo_isWrong 30 = some (.iconst 1) := by decide +kernel
theorem F_Mo_isWrong_31 : fetch m_Mo_isWrong 31 = some (.goto 28) := by decide +kernel
theorem F_Mo_isWrong_34 : fetch m_Mo_isWrong 34 = some (.iconst 0) := by decide +kernel
theorem F_Mo_isWrong_35 : fetch m_Mo_isWrong 35 = some (.goto 24) := by decide +kernel
theorem F_Mo_isWrong_38 : fetch m_Mo_isWrong 38 = some (.iload_n 1) := by decide +kernel
theorem F_Mo_isWrong_39 : fetch m_Mo_isWrong 39 = some (.iconst 2) := by decide +kernel
theorem F_Mo_isWrong_40 : fetch m_Mo_isWrong 40 = some (.irem) := by decide +kernel
theorem F_Mo_isWrong_41 : fetch m_Mo_isWrong 41 = some (.ifCond .ne 17) := by decide +kernel
theorem F_Mo_isWrong_44 : fetch m_Mo_isWrong 44 = some (.aload_n 0) := by decide +kernel
theorem F_Mo_isWrong_45 : fetch m_Mo_isWrong 45 = some (.iload_n 1) := by decide +kernel
theorem F_Mo_isWrong_46 : fetch m_Mo_isWrong 46 = some (.iconst 2) := by decide +kernel
theorem F_Mo_isWrong_47 : fetch m_Mo_isWrong 47 = some (.idiv) := by decide +kernel
theorem F_Mo_isWrong_48 : fetch m_Mo_isWrong 48 = some (.invokevirtual 302) := by decide +kernel
theorem F_Mo_isWrong_51 : fetch m_Mo_isWrong 51 = some (.ifCond .ne 7) := by decide +kernel
theorem F_Mo_isWrong_54 : fetch m_Mo_isWrong 54 = some (.iconst 1) := by decide +kernel
theorem F_Mo_isWrong_55 : fetch m_Mo_isWrong 55 = some (.goto 4) := by decide +kernel
theorem F_Mo_isWrong_58 : fetch m_Mo_isWrong 58 = some (.iconst 0) := by decide +kernel
theorem F_Mo_isWrong_59 : fetch m_Mo_isWrong 59 = some (.ireturn) := by decide +kernel
theorem F_Mo_isDisturbed_0 : fetch m_Mo_isDisturbed 0 = some (.iconst 0) := by decide +kernel
theorem F_Mo_isDisturbed_1 : fetch m_Mo_isDisturbed 1 = some (.istore_n 2) := by decide +kernel
theorem F_Mo_isDisturbed_2 : fetch m_Mo_isDisturbed 2 = some (.iload_n 2) := by decide +kernel
theorem F_Mo_isDisturbed_3 : fetch m_Mo_isDisturbed 3 = some (.iconst 2) := by decide +kernel
theorem F_Mo_isDisturbed_4 : fetch m_Mo_isDisturbed 4 = some (.aload_n 0) := by decide +kernel
theorem F_Mo_isDisturbed_5 : fetch m_Mo_isDisturbed 5 = some (.getfield 242) := by decide +kernel
theorem F_Mo_isDisturbed_8 : fetch m_Mo_isDisturbed 8 = some (.imul) := by decide +kernel
theorem F_Mo_isDisturbed_9 : fetch m_Mo_isDisturbed 9 = some (.if_icmp .ge 129) := by decide +kernel
theorem F_Mo_isDisturbed_12 : fetch m_Mo_isDisturbed 12 = some (.iload_n 2) := by decide +kernel
theorem F_Mo_isDisturbed_13 : fetch m_Mo_isDisturbed 13 = some (.iload_n 1) := by decide +kernel
theorem F_Mo_isDisturbed_14 : fetch m_Mo_isDisturbed 14 = some (.if_icmp .eq 118) := by decide +kernel
theorem F_Mo_isDisturbed_17 : fetch m_Mo_isDisturbed 17 = some (.aload_n 0) := by decide +kernel
theorem F_Mo_isDisturbed_18 : fetch m_Mo_isDisturbed 18 = some (.getfield 160) := by decide +kernel
theorem F_Mo_isDisturbed_21 : fetch m_Mo_isDisturbed 21 = some (.iload_n 2) := by decide +kernel
theorem F_Mo_isDisturbed_22 : fetch m_Mo_isDisturbed 22 = some (.baload) := by decide +kernel
theorem F_Mo_isDisturbed_23 : fetch m_Mo_isDisturbed 23 = some (.ifCond .ne 15) := by decide +kernel
theorem F_Mo_isDisturbed_26 : fetch m_Mo_isDisturbed 26 = some (.aload_n 0) := by decide +kernel
theorem F_Mo_isDisturbed_27 : fetch m_Mo_isDisturbed 27 = some (.getfield 157) := by decide +kernel
theorem F_Mo_isDisturbed_30 : fetch m_Mo_isDisturbed 30 = some (.iload_n 2) := by decide +kernel
theorem F_Mo_isDisturbed_31 : fetch m_Mo_isDisturbed 31 = some (.baload) := by decide +kernel
theorem F_Mo_isDisturbed_32 : fetch m_Mo_isDisturbed 32 = some (.ifCond .ne 6) := by decide +kernel
theorem F_Mo_isDisturbed_35 : fetch m_Mo_isDisturbed 35 = some (.goto 97) := by decide +kernel
theorem F_Mo_isDisturbed_38 : fetch m_Mo_isDisturbed 38 = some (.aload_n 0) := by decide +kernel
theorem F_Mo_isDisturbed_39 : fetch m_Mo_isDisturbed 39 = some (.aload_n 0) := by decide +kernel
theorem F_Mo_isDisturbed_40 : fetch m_Mo_isDisturbed 40 = some (.getfield 151) := by decide +kernel
theorem F_Mo_isDisturbed_43 : fetch m_Mo_isDisturbed 43 = some (.iload_n 2) := by decide +kernel
theorem F_Mo_isDisturbed_44 : fetch m_Mo_isDisturbed 44 = some (.laload) := by decide +kernel
theorem F_Mo_isDisturbed_45 : fetch m_Mo_isDisturbed 45 = some (.aload_n 0) := by decide +kernel
theorem F_Mo_isDisturbed_46 : fetch m_Mo_isDisturbed 46 = some (.getfield 21) := by decide +kernel
theorem F_Mo_isDisturbed_49 : fetch m_Mo_isDisturbed 49 = some (.lmul) := by decide +kernel
theorem F_Mo_isDisturbed_50 : fetch m_Mo_isDisturbed 50 = some (.aload_n 0) := by decide +kernel
theorem F_Mo_isDisturbed_51 : fetch m_Mo_isDisturbed 51 = some (.getfield 16) := by decide +kernel
theorem F_Mo_isDisturbed_54 : fetch m_Mo_isDisturbed 54 = some (.aload_n 0) := by decide +kernel
theorem F_Mo_isDisturbed_55 : fetch m_Mo_isDisturbed 55 = some (.getfield 154) := by decide +kernel
theorem F_Mo_isDisturbed_58 : fetch m_Mo_isDisturbed 58 = some (.iload_n 2) := by decide +kernel
theorem F_Mo_isDisturbed_59 : fetch m_Mo_isDisturbed 59 = some (.laload) := by decide +kernel
theorem F_Mo_isDisturbed_60 : fetch m_Mo_isDisturbed 60 = some (.lmul) := by decide +kernel
theorem F_Mo_isDisturbed_61 : fetch m_Mo_isDisturbed 61 = some (.ladd) := by decide +kernel
theorem F_Mo_isDisturbed_62 : fetch m_Mo_isDisturbed 62 = some (.aload_n 0) := by decide +kernel
theorem F_Mo_isDisturbed_63 : fetch m_Mo_isDisturbed 63 = some (.getfield 154) := by decide +kernel
theorem F_Mo_isDisturbed_66 : fetch m_Mo_isDisturbed 66 = some (.iload_n 2) := by decide +kernel
theorem F_Mo_isDisturbed_67 : fetch m_Mo_isDisturbed 67 = some (.laload) := by decide +kernel
theorem F_Mo_isDisturbed_68 : fetch m_Mo_isDisturbed 68 = some (.aload_n 0) := by decide +kernel
theorem F_Mo_isDisturbed_69 : fetch m_Mo_isDisturbed 69 = some (.getfield 21) := by decide +kernel
theorem F_Mo_isDisturbed_72 : fetch m_Mo_isDisturbed 72 = some (.lmul) := by decide +kernel
theorem F_Mo_isDisturbed_73 : fetch m_Mo_isDisturbed 73 = some (.invokevirtual 208) := by decide +kernel
theorem F_Mo_isDisturbed_76 : fetch m_Mo_isDisturbed 76 = some (.aload_n 0) := by decide +kernel
theorem F_Mo_isDisturbed_77 : fetch m_Mo_isDisturbed 77 = some (.getfield 160) := by decide +kernel
theorem F_Mo_isDisturbed_80 : fetch m_Mo_isDisturbed 80 = some (.iload_n 2) := by decide +kernel
theorem F_Mo_isDisturbed_81 : fetch m_Mo_isDisturbed 81 = some (.baload) := by decide +kernel
theorem F_Mo_isDisturbed_82 : fetch m_Mo_isDisturbed 82 = some (.ifCond .ne 29) := by decide +kernel
theorem F_Mo_isDisturbed_85 : fetch m_Mo_isDisturbed 85 = some (.aload_n 0) := by decide +kernel
theorem F_Mo_isDisturbed_86 : fetch m_Mo_isDisturbed 86 = some (.getfield 189) := by decide +kernel
theorem F_Mo_isDisturbed_89 : fetch m_Mo_isDisturbed 89 = some (.aload_n 0) := by decide +kernel
theorem F_Mo_isDisturbed_90 : fetch m_Mo_isDisturbed 90 = some (.getfield 192) := by decide +kernel
theorem F_Mo_isDisturbed_93 : fetch m_Mo_isDisturbed 93 = some (.aload_n 0) := by decide +kernel
theorem F_Mo_isDisturbed_94 : fetch m_Mo_isDisturbed 94 = some (.getfield 151) := by decide +kernel
theorem F_Mo_isDisturbed_97 : fetch m_Mo_isDisturbed 97 = some (.iload_n 1) := by decide +kernel
theorem F_Mo_isDisturbed_98 : fetch m_Mo_isDisturbed 98 = some (.laload) := by decide +kernel
theorem F_Mo_isDisturbed_99 : fetch m_Mo_isDisturbed 99 = some (.aload_n 0) := by decide +kernel
theorem F_Mo_isDisturbed_100 : fetch m_Mo_isDisturbed 100 = some (.getfield 154) := by decide +kernel
theorem F_Mo_isDisturbed_103 : fetch m_Mo_isDisturbed 103 = some (.iload_n 1) := by decide +kernel
theorem F_Mo_isDisturbed_104 : fetch m_Mo_isDisturbed 104 = some (.laload) := by decide +kernel
theorem F_Mo_isDisturbed_105 : fetch m_Mo_isDisturbed 105 = some (.invokestatic 264) := by decide +kernel
theorem F_Mo_isDisturbed_108 : fetch m_Mo_isDisturbed 108 = some (.ifCond .le 7) := by decide +kernel
theorem F_Mo_isDisturbed_111 : fetch m_Mo_isDisturbed 111 = some (.iconst 1) := by decide +kernel
theorem F_Mo_isDisturbed_112 : fetch m_Mo_isDisturbed 112 = some (.goto 4) := by decide +kernel
theorem F_Mo_isDisturbed_115 : fetch m_Mo_isDisturbed 115 = some (.iconst 0) := by decide +kernel
theorem F_Mo_isDisturbed_116 : fetch m_Mo_isDisturbed 116 = some (.istore_n 3) := by decide +kernel
theorem F_Mo_isDisturbed_117 : fetch m_Mo_isDisturbed 117 = some (.iload_n 3) := by decide +kernel
theorem F_Mo_isDisturbed_118 : fetch m_Mo_isDisturbed 118 = some (.ifCond .eq 14) := by decide +kernel
theorem F_Mo_isDisturbed_121 : fetch m_Mo_isDisturbed 121 = some (.aload_n 0) := by decide +kernel
theorem F_Mo_isDisturbed_122 : fetch m_Mo_isDisturbed 122 = some (.iload_n 1) := by decide +kernel
theorem F_Mo_isDisturbed_123 : fetch m_Mo_isDisturbed 123 = some (.iload_n 2) := by decide +kernel
theorem F_Mo_isDisturbed_124 : fetch m_Mo_isDisturbed 124 = some (.invokevirtual 290) := by decide +kernel
theorem F_Mo_isDisturbed_127 : fetch m_Mo_isDisturbed 127 = some (.ifCond .eq 5) := by decide +kernel
theorem F_Mo_isDisturbed_130 : fetch m_Mo_isDisturbed 130 = some (.iconst 1) := by decide +kernel
theorem F_Mo_isDisturbed_131 : fetch m_Mo_isDisturbed 131 = some (.ireturn) := by decide +kernel
theorem F_Mo_isDisturbed_132 : fetch m_Mo_isDisturbed 132 = some (.iinc 2 1) := by decide +kernel
theorem F_Mo_isDisturbed_135 : fetch m_Mo_isDisturbed 135 = some (.goto (-133)) := by decide +kernel
theorem F_Mo_isDisturbed_138 : fetch m_Mo_isDisturbed 138 = some (.iconst 0) := by decide +kernel
theorem F_Mo_isDisturbed_139 : fetch m_Mo_isDisturbed 139 = some (.ireturn) := by decide +kernel
theorem F_Mo_interfere_0 : fetch m_Mo_interfere 0 = some (.iconst 0) := by decide +kernel
theorem F_Mo_interfere_1 : fetch m_Mo_interfere 1 = some (.istore_n 3) := by decide +kernel
theorem F_Mo_interfere_2 : fetch m_Mo_interfere 2 = some (.iconst 0) := by decide +kernel
theorem F_Mo_interfere_3 : fetch m_Mo_interfere 3 = some (.istore 4) := by decide +kernel
theorem F_Mo_interfere_5 : fetch m_Mo_interfere 5 = some (.iload 4) := by decide +kernel
theorem F_Mo_interfere_7 : fetch m_Mo_interfere 7 = some (.bipush 16) := by decide +kernel
theorem F_Mo_interfere_9 : fetch m_Mo_interfere 9 = some (.if_icmp .ge 31) := by decide +kernel
theorem F_Mo_interfere_12 : fetch m_Mo_interfere 12 = some (.iload_n 3) := by decide +kernel
theorem F_Mo_interfere_13 : fetch m_Mo_interfere 13 = some (.ifCond .ne 15) := by decide +kernel
theorem F_Mo_interfere_16 : fetch m_Mo_interfere 16 = some (.aload_n 0) := by decide +kernel
theorem F_Mo_interfere_17 : fetch m_Mo_interfere 17 = some (.iload_n 1) := by decide +kernel
theorem F_Mo_interfere_18 : fetch m_Mo_interfere 18 = some (.iload_n 2) := by decide +kernel
theorem F_Mo_interfere_19 : fetch m_Mo_interfere 19 = some (.iconst 1) := by decide +kernel
theorem F_Mo_interfere_20 : fetch m_Mo_interfere 20 = some (.iload 4) := by decide +kernel
theorem F_Mo_interfere_22 : fetch m_Mo_interfere 22 = some (.invokevirtual 260) := by decide +kernel
theorem F_Mo_interfere_25 : fetch m_Mo_interfere 25 = some (.ifCond .eq 7) := by decide +kernel
theorem F_Mo_interfere_28 : fetch m_Mo_interfere 28 = some (.iconst 1) := by decide +kernel
theorem F_Mo_interfere_29 : fetch m_Mo_interfere 29 = some (.goto 4) := by decide +kernel
theorem F_Mo_interfere_32 : fetch m_Mo_interfere 32 = some (.iconst 0) := by decide +kernel
theorem F_Mo_interfere_33 : fetch m_Mo_interfere 33 = some (.istore_n 3) := by decide +kernel
theorem F_Mo_interfere_34 : fetch m_Mo_interfere 34 = some (.iinc 4 1) := by decide +kernel
theorem F_Mo_interfere_37 : fetch m_Mo_interfere 37 = some (.goto (-32)) := by decide +kernel
theorem F_Mo_interfere_40 : fetch m_Mo_interfere 40 = some (.iconst 0) := by decide +kernel
theorem F_Mo_interfere_41 : fetch m_Mo_interfere 41 = some (.istore 4) := by decide +kernel
theorem F_Mo_interfere_43 : fetch m_Mo_interfere 43 = some (.iload 4) := by decide +kernel
theorem F_Mo_interfere_45 : fetch m_Mo_interfere 45 = some (.bipush 8) := by decide +kernel
theorem F_Mo_interfere_47 : fetch m_Mo_interfere 47 = some (.if_icmp .ge 31) := by decide +kernel
theorem F_Mo_interfere_50 : fetch m_Mo_interfere 50 = some (.iload_n 3) := by decide +kernel
theorem F_Mo_interfere_51 : fetch m_Mo_interfere 51 = some (.ifCond .ne 15) := by decide +kernel
theorem F_Mo_interfere_54 : fetch m_Mo_interfere 54 = some (.aload_n 0) := by decide +kernel
theorem F_Mo_interfere_55 : fetch m_Mo_interfere 55 = some (.iload_n 1) := by decide +kernel
theorem F_Mo_interfere_56 : fetch m_Mo_interfere 56 = some (.iload_n 2) := by decide +kernel
theorem F_Mo_interfere_57 : fetch m_Mo_interfere 57 = some (.iconst 0) := by decide +kernel
theorem F_Mo_interfere_58 : fetch m_Mo_interfere 58 = some (.iload 4) := by decide +kernel
theorem F_Mo_interfere_60 : fetch m_Mo_interfere 60 = some (.invokevirtual 260) := by decide +kernel
theorem F_Mo_interfere_63 : fetch m_Mo_interfere 63 = some (.ifCond .eq 7) := by decide +kernel
theorem F_Mo_interfere_66 : fetch m_Mo_interfere 66 = some (.iconst 1) := by decide +kernel
theorem F_Mo_interfere_67 : fetch m_Mo_interfere 67 = some (.goto 4) := by decide +kernel
theorem F_Mo_interfere_70 : fetch m_Mo_interfere 70 = some (.iconst 0) := by decide +kernel
theorem F_Mo_interfere_71 : fetch m_Mo_interfere 71 = some (.istore_n 3) := by decide +kernel
theorem F_Mo_interfere_72 : fetch m_Mo_interfere 72 = some (.iinc 4 1) := by decide +kernel
theorem F_Mo_interfere_75 : fetch m_Mo_interfere 75 = some (.goto (-32)) := by decide +kernel
theorem F_Mo_interfere_78 : fetch m_Mo_interfere 78 = some (.iload_n 3) := by decide +kernel
theorem F_Mo_interfere_79 : fetch m_Mo_interfere 79 = some (.ireturn) := by decide +kernel
theorem F_Mo_clash_0 : fetch m_Mo_clash 0 = some (.aload_n 0) := by decide +kernel
theorem F_Mo_clash_1 : fetch m_Mo_clash 1 = some (.iload_n 1) := by decide +kernel
theorem F_Mo_clash_2 : fetch m_Mo_clash 2 = some (.iload_n 3) := by decide +kernel
theorem F_Mo_clash_3 : fetch m_Mo_clash 3 = some (.iload 4) := by decide +kernel
theorem F_Mo_clash_5 : fetch m_Mo_clash 5 = some (.invokevirtual 252) := by decide +kernel
theorem F_Mo_clash_8 : fetch m_Mo_clash 8 = some (.istore 5) := by decide +kernel
theorem F_Mo_clash_10 : fetch m_Mo_clash 10 = some (.aload_n 0) := by decide +kernel
theorem F_Mo_clash_11 : fetch m_Mo_clash 11 = some (.iload_n 2) := by decide +kernel
theorem F_Mo_clash_12 : fetch m_Mo_clash 12 = some (.iload_n 3) := by decide +kernel
theorem F_Mo_clash_13 : fetch m_Mo_clash 13 = some (.iload 4) := by decide +kernel
theorem F_Mo_clash_15 : fetch m_Mo_clash 15 = some (.invokevirtual 252) := by decide +kernel
theorem F_Mo_clash_18 : fetch m_Mo_clash 18 = some (.istore 6) := by decide +kernel
theorem F_Mo_clash_20 : fetch m_Mo_clash 20 = some (.iload 5) := by decide +kernel
theorem F_Mo_clash_22 : fetch m_Mo_clash 22 = some (.ifCond .lt 14) := by decide +kernel
theorem F_Mo_clash_25 : fetch m_Mo_clash 25 = some (.aload_n 0) := by decide +kernel
theorem F_Mo_clash_26 : fetch m_Mo_clash 26 = some (.iload_n 2) := by decide +kernel
theorem F_Mo_clash_27 : fetch m_Mo_clash 27 = some (.iload_n 3) := by decide +kernel
theorem F_Mo_clash_28 : fetch m_Mo_clash 28 = some (.iload 4) := by decide +kernel
theorem F_Mo_clash_30 : fetch m_Mo_clash 30 = some (.invokevirtual 256) := by decide +kernel
theorem F_Mo_clash_33 : fetch m_Mo_clash 33 = some (.ifCond .ne 19) := by decide +kernel
theorem F_Mo_clash_36 : fetch m_Mo_clash 36 = some (.iload 6) := by decide +kernel
theorem F_Mo_clash_38 : fetch m_Mo_clash 38 = some (.ifCond .lt 16) := by decide +kernel
theorem F_Mo_clash_41 : fetch m_Mo_clash 41 = some (.aload_n 0) := by decide +kernel
theorem F_Mo_clash_42 : fetch m_Mo_clash 42 = some (.iload_n 1) := by decide +kernel
theorem F_Mo_clash_43 : fetch m_Mo_clash 43 = some (.iload_n 3) := by decide +kernel
theorem F_Mo_clash_44 : fetch m_Mo_clash 44 = some (.iload 4) := by decide +kernel
theorem F_Mo_clash_46 : fetch m_Mo_clash 46 = some (.invokevirtual 256) := by decide +kernel
theorem F_Mo_clash_49 : fetch m_Mo_clash 49 = some (.ifCond .eq 5) := by decide +kernel
theorem F_Mo_clash_52 : fetch m_Mo_clash 52 = some (.iconst 1) := by decide +kernel
theorem F_Mo_clash_53 : fetch m_Mo_clash 53 = some (.ireturn) := by decide +kernel
theorem F_Mo_clash_54 : fetch m_Mo_clash 54 = some (.iload 5) := by decide +kernel
theorem F_Mo_clash_56 : fetch m_Mo_clash 56 = some (.ifCond .lt 8) := by decide +kernel
theorem F_Mo_clash_59 : fetch m_Mo_clash 59 = some (.iload 6) := by decide +kernel
theorem F_Mo_clash_61 : fetch m_Mo_clash 61 = some (.ifCond .ge 5) := by decide +kernel
theorem F_Mo_clash_64 : fetch m_Mo_clash 64 = some (.iconst 0) := by decide +kernel
theorem F_Mo_clash_65 : fetch m_Mo_clash 65 = some (.ireturn) := by decide +kernel
theorem F_Mo_clash_66 : fetch m_Mo_clash 66 = some (.iload_n 3) := by decide +kernel
theorem F_Mo_clash_67 : fetch m_Mo_clash 67 = some (.ifCond .eq 18) := by decide +kernel
theorem F_Mo_clash_70 : fetch m_Mo_clash 70 = some (.iload 5) := by decide +kernel
theorem F_Mo_clash_72 : fetch m_Mo_clash 72 = some (.iload 6) := by decide +kernel
theorem F_Mo_clash_74 : fetch m_Mo_clash 74 = some (.if_icmp .eq 7) := by decide +kernel
theorem F_Mo_clash_77 : fetch m_Mo_clash 77 = some (.iconst 1) := by decide +kernel
theorem F_Mo_clash_78 : fetch m_Mo_clash 78 = some (.goto 36) := by decide +kernel
theorem F_Mo_clash_81 : fetch m_Mo_clash 81 = some (.iconst 0) := by decide +kernel
theorem F_Mo_clash_82 : fetch m_Mo_clash 82 = some (.goto 32) := by decide +kernel
theorem F_Mo_clash_85 : fetch m_Mo_clash 85 = some (.iload 5) := by decide +kernel
theorem F_Mo_clash_87 : fetch m_Mo_clash 87 = some (.iconst 1) := by decide +kernel
theorem F_Mo_clash_88 : fetch m_Mo_clash 88 = some (.if_icmp .eq 9) := by decide +kernel
theorem F_Mo_clash_91 : fetch m_Mo_clash 91 = some (.iload 5) := by decide +kernel
theorem F_Mo_clash_93 : fetch m_Mo_clash 93 = some (.iconst 2) := by decide +kernel
theorem F_Mo_clash_94 : fetch m_Mo_clash 94 = some (.if_icmp .ne 15) := by decide +kernel
theorem F_Mo_clash_97 : fetch m_Mo_clash 97 = some (.iload 6) := by decide +kernel
theorem F_Mo_clash_99 : fetch m_Mo_clash 99 = some (.iconst 1) := by decide +kernel
theorem F_Mo_clash_100 : fetch m_Mo_clash 100 = some (.if_icmp .eq 13) := by decide +kernel
theorem F_Mo_clash_103 : fetch m_Mo_clash 103 = some (.iload 6) := by decide +kernel
theorem F_Mo_clash_105 : fetch m_Mo_clash 105 = some (.iconst 2) := by decide +kernel
theorem F_Mo_clash_106 : fetch m_Mo_clash 106 = some (.if_icmp .eq 7) := by decide +kernel
theorem F_Mo_clash_109 : fetch m_Mo_clash 109 = some (.iconst 1) := by decide +kernel
theorem F_Mo_clash_110 : fetch m_Mo_clash 110 = some (.goto 4) := by decide +kernel
theorem F_Mo_clash_113 : fetch m_Mo_clash 113 = some (.iconst 0) := by decide +kernel
theorem F_Mo_clash_114 : fetch m_Mo_clash 114 = some (.ireturn) := by decide +kernel
theorem F_Mo_howChanged_0 : fetch m_Mo_howChanged 0 = some (.aload_n 0) := by decide +kernel
theorem F_Mo_howChanged_1 : fetch m_Mo_howChanged 1 = some (.aload_n 0) := by decide +kernel
theorem F_Mo_howChanged_2 : fetch m_Mo_howChanged 2 = some (.getfield 111) := by decide +kernel
theorem F_Mo_howChanged_5 : fetch m_Mo_howChanged 5 = some (.iload_n 1) := by decide +kernel
theorem F_Mo_howChanged_6 : fetch m_Mo_howChanged 6 = some (.iconst 2) := by decide +kernel
theorem F_Mo_howChanged_7 : fetch m_Mo_howChanged 7 = some (.idiv) := by decide +kernel
theorem F_Mo_howChanged_8 : fetch m_Mo_howChanged 8 = some (.iaload) := by decide +kernel
theorem F_Mo_howChanged_9 : fetch m_Mo_howChanged 9 = some (.iload_n 1) := by decide +kernel
theorem F_Mo_howChanged_10 : fetch m_Mo_howChanged 10 = some (.invokestatic 248) := by decide +kernel
theorem F_Mo_howChanged_13 : fetch m_Mo_howChanged 13 = some (.iload_n 2) := by decide +kernel
theorem F_Mo_howChanged_14 : fetch m_Mo_howChanged 14 = some (.iload_n 3) := by decide +kernel
theorem F_Mo_howChanged_15 : fetch m_Mo_howChanged 15 = some (.invokevirtual 235) := by decide +kernel
theorem F_Mo_howChanged_18 : fetch m_Mo_howChanged 18 = some (.istore 4) := by decide +kernel
theorem F_Mo_howChanged_20 : fetch m_Mo_howChanged 20 = some (.iload 4) := by decide +kernel
theorem F_Mo_howChanged_22 : fetch m_Mo_howChanged 22 = some (.ifCond .ge 7) := by decide +kernel
theorem F_Mo_howChanged_25 : fetch m_Mo_howChanged 25 = some (.iconst (-1)) := by decide +kernel
theorem F_Mo_howChanged_26 : fetch m_Mo_howChanged 26 = some (.goto 10) := by decide +kernel
theorem F_Mo_howChanged_29 : fetch m_Mo_howChanged 29 = some (.aload_n 0) := by decide +kernel
theorem F_Mo_howChanged_30 : fetch m_Mo_howChanged 30 = some (.getfield 75) := by decide +kernel
theorem F_Mo_howChanged_33 : fetch m_Mo_howChanged 33 = some (.iload 4) := by decide +kernel
theorem F_Mo_howChanged_35 : fetch m_Mo_howChanged 35 = some (.iaload) := by decide +kernel
theorem F_Mo_howChanged_36 : fetch m_Mo_howChanged 36 = some (.ireturn) := by decide +kernel
theorem F_Mo_timeOf_0 : fetch m_Mo_timeOf 0 = some (.iload_n 0) := by decide +kernel
theorem F_Mo_timeOf_1 : fetch m_Mo_timeOf 1 = some (.iconst 2) := by decide +kernel
theorem F_Mo_timeOf_2 : fetch m_Mo_timeOf 2 = some (.irem) := by decide +kernel
theorem F_Mo_timeOf_3 : fetch m_Mo_timeOf 3 = some (.ifCond .ne 7) := by decide +kernel
theorem F_Mo_timeOf_6 : fetch m_Mo_timeOf 6 = some (.iconst 0) := by decide +kernel
theorem F_Mo_timeOf_7 : fetch m_Mo_timeOf 7 = some (.goto 4) := by decide +kernel
theorem F_Mo_timeOf_10 : fetch m_Mo_timeOf 10 = some (.iconst 2) := by decide +kernel
theorem F_Mo_timeOf_11 : fetch m_Mo_timeOf 11 = some (.ireturn) := by decide +kernel
theorem F_Mo_looksAt_0 : fetch m_Mo_looksAt 0 = some (.aload_n 0) := by decide +kernel
theorem F_Mo_looksAt_1 : fetch m_Mo_looksAt 1 = some (.getfield 111) := by decide +kernel
theorem F_Mo_looksAt_4 : fetch m_Mo_looksAt 4 = some (.iload_n 1) := by decide +kernel
theorem F_Mo_looksAt_5 : fetch m_Mo_looksAt 5 = some (.iconst 2) := by decide +kernel
theorem F_Mo_looksAt_6 : fetch m_Mo_looksAt 6 = some (.idiv) := by decide +kernel
theorem F_Mo_looksAt_7 : fetch m_Mo_looksAt 7 = some (.iaload) := by decide +kernel
theorem F_Mo_looksAt_8 : fetch m_Mo_looksAt 8 = some (.istore 4) := by decide +kernel
theorem F_Mo_looksAt_10 : fetch m_Mo_looksAt 10 = some (.bipush 8) := by decide +kernel
theorem F_Mo_looksAt_12 : fetch m_Mo_looksAt 12 = some (.iload 4) := by decide +kernel
theorem F_Mo_looksAt_14 : fetch m_Mo_looksAt 14 = some (.imul) := by decide +kernel
theorem F_Mo_looksAt_15 : fetch m_Mo_looksAt 15 = some (.istore 5) := by decide +kernel
theorem F_Mo_looksAt_17 : fetch m_Mo_looksAt 17 = some (.iload 5) := by decide +kernel
theorem F_Mo_looksAt_19 : fetch m_Mo_looksAt 19 = some (.bipush 8) := by decide +kernel
theorem F_Mo_looksAt_21 : fetch m_Mo_looksAt 21 = some (.iload 4) := by decide +kernel
theorem F_Mo_looksAt_23 : fetch m_Mo_looksAt 23 = some (.imul) := by decide +kernel
theorem F_Mo_looksAt_24 : fetch m_Mo_looksAt 24 = some (.aload_n 0) := by decide +kernel
theorem F_Mo_looksAt_25 : fetch m_Mo_looksAt 25 = some (.getfield 48) := by decide +kernel
theorem F_Mo_looksAt_28 : fetch m_Mo_looksAt 28 = some (.iload 4) := by decide +kernel
theorem F_Mo_looksAt_30 : fetch m_Mo_looksAt 30 = some (.iaload) := by decide +kernel
theorem F_Mo_looksAt_31 : fetch m_Mo_looksAt 31 = some (.iadd) := by decide +kernel
theorem F_Mo_looksAt_32 : fetch m_Mo_looksAt 32 = some (.if_icmp .ge 57) := by decide +kernel
theorem F_Mo_looksAt_35 : fetch m_Mo_looksAt 35 = some (.aload_n 0) := by decide +kernel
theorem F_Mo_looksAt_36 : fetch m_Mo_looksAt 36 = some (.getfield 51) := by decide +kernel
theorem F_Mo_looksAt_39 : fetch m_Mo_looksAt 39 = some (.iload 5) := by decide +kernel
theorem F_Mo_looksAt_41 : fetch m_Mo_looksAt 41 = some (.iaload) := by decide +kernel
theorem F_Mo_looksAt_42 : fetch m_Mo_looksAt 42 = some (.iload_n 1) := by decide +kernel
theorem F_Mo_looksAt_43 : fetch m_Mo_looksAt 43 = some (.invokestatic 248) := by decide +kernel
theorem F_Mo_looksAt_46 : fetch m_Mo_looksAt 46 = some (.if_icmp .ne 37) := by decide +kernel
theorem F_Mo_looksAt_49 : fetch m_Mo_looksAt 49 = some (.aload_n 0) := by decide +kernel
theorem F_Mo_looksAt_50 : fetch m_Mo_looksAt 50 = some (.getfield 57) := by decide +kernel
theorem F_Mo_looksAt_53 : fetch m_Mo_looksAt 53 = some (.iload 5) := by decide +kernel
theorem F_Mo_looksAt_55 : fetch m_Mo_looksAt 55 = some (.iaload) := by decide +kernel
theorem F_Mo_looksAt_56 : fetch m_Mo_looksAt 56 = some (.bipush 9) := by decide +kernel
theorem F_Mo_looksAt_58 : fetch m_Mo_looksAt 58 = some (.if_icmp .le 7) := by decide +kernel
theorem F_Mo_looksAt_61 : fetch m_Mo_looksAt 61 = some (.iconst 1) := by decide +kernel
theorem F_Mo_looksAt_62 : fetch m_Mo_looksAt 62 = some (.goto 4) := by decide +kernel
theorem F_Mo_looksAt_65 : fetch m_Mo_looksAt 65 = some (.iconst 0) := by decide +kernel
theorem F_Mo_looksAt_66 : fetch m_Mo_looksAt 66 = some (.iload_n 2) := by decide +kernel
theorem F_Mo_looksAt_67 : fetch m_Mo_looksAt 67 = some (.if_icmp .ne 16) := by decide +kernel
theorem F_Mo_looksAt_70 : fetch m_Mo_looksAt 70 = some (.aload_n 0) := by decide +kernel
theorem F_Mo_looksAt_71 : fetch m_Mo_looksAt 71 = some (.getfield 54) := by decide +kernel
theorem F_Mo_looksAt_74 : fetch m_Mo_looksAt 74 = some (.iload 5) := by decide +kernel
theorem F_Mo_looksAt_76 : fetch m_Mo_looksAt 76 = some (.iaload) := by decide +kernel
theorem F_Mo_looksAt_77 : fetch m_Mo_looksAt 77 = some (.iload_n 3) := by decide +kernel
theorem F_Mo_looksAt_78 : fetch m_Mo_looksAt 78 = some (.if_icmp .ne 5) := by decide +kernel
theorem F_Mo_looksAt_81 : fetch m_Mo_looksAt 81 = some (.iconst 1) := by decide +kernel
theorem F_Mo_looksAt_82 : fetch m_Mo_looksAt 82 = some (.ireturn) := by decide +kernel
theorem F_Mo_looksAt_83 : fetch m_Mo_looksAt 83 = some (.iinc 5 1) := by decide +kernel
theorem F_Mo_looksAt_86 : fetch m_Mo_looksAt 86 = some (.goto (-69)) := by decide +kernel
theorem F_Mo_looksAt_89 : fetch m_Mo_looksAt 89 = some (.iload_n 2) := by decide +kernel
theorem F_Mo_looksAt_90 : fetch m_Mo_looksAt 90 = some (.ifCond .eq 5) := by decide +kernel
theorem F_Mo_looksAt_93 : fetch m_Mo_looksAt 93 = some (.iconst 0) := by decide +kernel
theorem F_Mo_looksAt_94 : fetch m_Mo_looksAt 94 = some (.ireturn) := by decide +kernel
theorem F_Mo_looksAt_95 : fetch m_Mo_looksAt 95 = some (.iload_n 1) := by decide +kernel
theorem F_Mo_looksAt_96 : fetch m_Mo_looksAt 96 = some (.iconst 2) := by decide +kernel
theorem F_Mo_looksAt_97 : fetch m_Mo_looksAt 97 = some (.irem) := by decide +kernel
theorem F_Mo_looksAt_98 : fetch m_Mo_looksAt 98 = some (.ifCond .ne 33) := by decide +kernel
theorem F_Mo_looksAt_101 : fetch m_Mo_looksAt 101 = some (.aload_n 0) := by decide +kernel
theorem F_Mo_looksAt_102 : fetch m_Mo_looksAt 102 = some (.getfield 84) := by decide +kernel
theorem F_Mo_looksAt_105 : fetch m_Mo_looksAt 105 = some (.iconst 2) := by decide +kernel
theorem F_Mo_looksAt_106 : fetch m_Mo_looksAt 106 = some (.iload 4) := by decide +kernel
theorem F_Mo_looksAt_108 : fetch m_Mo_looksAt 108 = some (.imul) := by decide +kernel
theorem F_Mo_looksAt_109 : fetch m_Mo_looksAt 109 = some (.iaload) := by decide +kernel
theorem F_Mo_looksAt_110 : fetch m_Mo_looksAt 110 = some (.iload_n 3) := by decide +kernel
theorem F_Mo_looksAt_111 : fetch m_Mo_looksAt 111 = some (.if_icmp .eq 18) := by decide +kernel
theorem F_Mo_looksAt_114 : fetch m_Mo_looksAt 114 = some (.aload_n 0) := by decide +kernel
theorem F_Mo_looksAt_115 : fetch m_Mo_looksAt 115 = some (.getfield 84) := by decide +kernel
theorem F_Mo_looksAt_118 : fetch m_Mo_looksAt 118 = some (.iconst 2) := by decide +kernel
theorem F_Mo_looksAt_119 : fetch m_Mo_looksAt 119 = some (.iload 4) := by decide +kernel
theorem F_Mo_looksAt_121 : fetch m_Mo_looksAt 121 = some (.imul) := by decide +kernel
theorem F_Mo_looksAt_122 : fetch m_Mo_looksAt 122 = some (.iconst 1) := by decide +kernel
theorem F_Mo_looksAt_123 : fetch m_Mo_looksAt 123 = some (.iadd) := by decide +kernel
theorem F_Mo_looksAt_124 : fetch m_Mo_looksAt 124 = some (.iaload) := by decide +kernel
theorem F_Mo_looksAt_125 : fetch m_Mo_looksAt 125 = some (.iload_n 3) := by decide +kernel
theorem F_Mo_looksAt_126 : fetch m_Mo_looksAt 126 = some (.if_icmp .ne 5) := by decide +kernel
theorem F_Mo_looksAt_129 : fetch m_Mo_looksAt 129 = some (.iconst 1) := by decide +kernel
theorem F_Mo_looksAt_130 : fetch m_Mo_looksAt 130 = some (.ireturn) := by decide +kernel
theorem F_Mo_looksAt_131 : fetch m_Mo_looksAt 131 = some (.aload_n 0) := by decide +kernel
theorem F_Mo_looksAt_132 : fetch m_Mo_looksAt 132 = some (.iload_n 1) := by decide +kernel
theorem F_Mo_looksAt_133 : fetch m_Mo_looksAt 133 = some (.iconst 0) := by decide +kernel
theorem F_Mo_looksAt_134 : fetch m_Mo_looksAt 134 = some (.iload_n 3) := by decide +kernel
theorem F_Mo_looksAt_135 : fetch m_Mo_looksAt 135 = some (.invokevirtual 252) := by decide +kernel
theorem F_Mo_looksAt_138 : fetch m_Mo_looksAt 138 = some (.iconst 3) := by decide +kernel
theorem F_Mo_looksAt_139 : fetch m_Mo_looksAt 139 = some (.if_icmp .ne 7) := by decide +kernel
theorem F_Mo_looksAt_142 : fetch m_Mo_looksAt 142 = some (.iconst 1) := by decide +kernel
theorem F_Mo_looksAt_143 : fetch m_Mo_looksAt 143 = some (.goto 4) := by decide +kernel
theorem F_Mo_looksAt_146 : fetch m_Mo_looksAt 146 = some (.iconst 0) := by decide +kernel
theorem F_Mo_looksAt_147 : fetch m_Mo_looksAt 147 = some (.ireturn) := by decide +kernel
theorem F_Mo_isFit_0 : fetch m_Mo_isFit 0 = some (.aload_n 0) := by decide +kernel
theorem F_Mo_isFit_1 : fetch m_Mo_isFit 1 = some (.getfield 111) := by decide +kernel
theorem F_Mo_isFit_4 : fetch m_Mo_isFit 4 = some (.iload_n 1) := by decide +kernel
theorem F_Mo_isFit_5 : fetch m_Mo_isFit 5 = some (.iaload) := by decide +kernel
theorem F_Mo_isFit_6 : fetch m_Mo_isFit 6 = some (.istore_n 3) := by decide +kernel
theorem F_Mo_isFit_7 : fetch m_Mo_isFit 7 = some (.iconst 1) := by decide +kernel
theorem F_Mo_isFit_8 : fetch m_Mo_isFit 8 = some (.istore 4) := by decide +kernel
theorem F_Mo_isFit_10 : fetch m_Mo_isFit 10 = some (.bipush 8) := by decide +kernel
theorem F_Mo_isFit_12 : fetch m_Mo_isFit 12 = some (.iload_n 3) := by decide +kernel
theorem F_Mo_isFit_13 : fetch m_Mo_isFit 13 = some (.imul) := by decide +kernel
theorem F_Mo_isFit_14 : fetch m_Mo_isFit 14 = some (.istore 5) := by decide +kernel
theorem F_Mo_isFit_16 : fetch m_Mo_isFit 16 = some (.iload 5) := by decide +kernel
theorem F_Mo_isFit_18 : fetch m_Mo_isFit 18 = some (.bipush 8) := by decide +kernel
theorem F_Mo_isFit_20 : fetch m_Mo_isFit 20 = some (.iload_n 3) := by decide +kernel
theorem F_Mo_isFit_21 : fetch m_Mo_isFit 21 = some (.imul) := by decide +kernel
theorem F_Mo_isFit_22 : fetch m_Mo_isFit 22 = some (.aload_n 0) := by decide +kernel
theorem F_Mo_isFit_23 : fetch m_Mo_isFit 23 = some (.getfield 48) := by decide +kernel
theorem F_Mo_isFit_26 : fetch m_Mo_isFit 26 = some (.iload_n 3) := by decide +kernel
theorem F_Mo_isFit_27 : fetch m_Mo_isFit 27 = some (.iaload) := by decide +kernel
theorem F_Mo_isFit_28 : fetch m_Mo_isFit 28 = some (.iadd) := by decide +kernel
theorem F_Mo_isFit_29 : fetch m_Mo_isFit 29 = some (.if_icmp .ge 41) := by decide +kernel
theorem F_Mo_isFit_32 : fetch m_Mo_isFit 32 = some (.iload 4) := by decide +kernel
theorem F_Mo_isFit_34 : fetch m_Mo_isFit 34 = some (.ifCond .eq 27) := by decide +kernel
theorem F_Mo_isFit_37 : fetch m_Mo_isFit 37 = some (.aload_n 0) := by decide +kernel
theorem F_Mo_isFit_38 : fetch m_Mo_isFit 38 = some (.getfield 51) := by decide +kernel
theorem F_Mo_isFit_41 : fetch m_Mo_isFit 41 = some (.iload 5) := by decide +kernel
theorem F_Mo_isFit_43 : fetch m_Mo_isFit 43 = some (.iaload) := by decide +kernel
theorem F_Mo_isFit_44 : fetch m_Mo_isFit 44 = some (.iload_n 2) := by decide +kernel
theorem F_Mo_isFit_45 : fetch m_Mo_isFit 45 = some (.if_icmp .ne 12) := by decide +kernel
theorem F_Mo_isFit_48 : fetch m_Mo_isFit 48 = some (.aload_n 0) := by decide +kernel
theorem F_Mo_isFit_49 : fetch m_Mo_isFit 49 = some (.iload 5) := by decide +kernel
theorem F_Mo_isFit_51 : fetch m_Mo_isFit 51 = some (.invokevirtual 271) := by decide +kernel
theorem F_Mo_isFit_54 : fetch m_Mo_isFit 54 = some (.ifCond .eq 7) := by decide +kernel
theorem F_Mo_isFit_57 : fetch m_Mo_isFit 57 = some (.iconst 1) := by decide +kernel
theorem F_Mo_isFit_58 : fetch m_Mo_isFit 58 = some (.goto 4) := by decide +kernel
theorem F_Mo_isFit_61 : fetch m_Mo_isFit 61 = some (.iconst 0) := by decide +kernel
theorem F_Mo_isFit_62 : fetch m_Mo_isFit 62 = some (.istore 4) := by decide +kernel
theorem F_Mo_isFit_64 : fetch m_Mo_isFit 64 = some (.iinc 5 1) := by decide +kernel
theorem F_Mo_isFit_67 : fetch m_Mo_isFit 67 = some (.goto (-51)) := by decide +kernel
theorem F_Mo_isFit_70 : fetch m_Mo_isFit 70 = some (.iload 4) := by decide +kernel
theorem F_Mo_isFit_72 : fetch m_Mo_isFit 72 = some (.ireturn) := by decide +kernel
theorem F_Mo_isSo_0 : fetch m_Mo_isSo 0 = some (.aload_n 0) := by decide +kernel
theorem F_Mo_isSo_1 : fetch m_Mo_isSo 1 = some (.getfield 54) := by decide +kernel
theorem F_Mo_isSo_4 : fetch m_Mo_isSo 4 = some (.iload_n 1) := by decide +kernel
theorem F_Mo_isSo_5 : fetch m_Mo_isSo 5 = some (.iaload) := by decide +kernel
theorem F_Mo_isSo_6 : fetch m_Mo_isSo 6 = some (.istore_n 2) := by decide +kernel
theorem F_Mo_isSo_7 : fetch m_Mo_isSo 7 = some (.aload_n 0) := by decide +kernel
theorem F_Mo_isSo_8 : fetch m_Mo_isSo 8 = some (.getfield 57) := by decide +kernel
theorem F_Mo_isSo_11 : fetch m_Mo_isSo 11 = some (.iload_n 1) := by decide +kernel
theorem F_Mo_isSo_12 : fetch m_Mo_isSo 12 = some (.iaload) := by decide +kernel
theorem F_Mo_isSo_13 : fetch m_Mo_isSo 13 = some (.bipush 9) := by decide +kernel
theorem F_Mo_isSo_15 : fetch m_Mo_isSo 15 = some (.if_icmp .le 34) := by decide +kernel
theorem F_Mo_isSo_18 : fetch m_Mo_isSo 18 = some (.aload_n 0) := by decide +kernel
theorem F_Mo_isSo_19 : fetch m_Mo_isSo 19 = some (.getfield 120) := by decide +kernel
theorem F_Mo_isSo_22 : fetch m_Mo_isSo 22 = some (.iload_n 2) := by decide +kernel
theorem F_Mo_isSo_23 : fetch m_Mo_isSo 23 = some (.baload) := by decide +kernel
theorem F_Mo_isSo_24 : fetch m_Mo_isSo 24 = some (.aload_n 0) := by decide +kernel
theorem F_Mo_isSo_25 : fetch m_Mo_isSo 25 = some (.getfield 57) := by decide +kernel
theorem F_Mo_isSo_28 : fetch m_Mo_isSo 28 = some (.iload_n 1) := by decide +kernel
theorem F_Mo_isSo_29 : fetch m_Mo_isSo 29 = some (.iaload) := by decide +kernel
theorem F_Mo_isSo_30 : fetch m_Mo_isSo 30 = some (.bipush 11) := by decide +kernel
theorem F_Mo_isSo_32 : fetch m_Mo_isSo 32 = some (.if_icmp .ne 7) := by decide +kernel
theorem F_Mo_isSo_35 : fetch m_Mo_isSo 35 = some (.iconst 1) := by decide +kernel
theorem F_Mo_isSo_36 : fetch m_Mo_isSo 36 = some (.goto 4) := by decide +kernel
theorem F_Mo_isSo_39 : fetch m_Mo_isSo 39 = some (.iconst 0) := by decide +kernel
theorem F_Mo_isSo_40 : fetch m_Mo_isSo 40 = some (.if_icmp .ne 7) := by decide +kernel
theorem F_Mo_isSo_43 : fetch m_Mo_isSo 43 = some (.iconst 1) := by decide +kernel
theorem F_Mo_isSo_44 : fetch m_Mo_isSo 44 = some (.goto 4) := by decide +kernel
theorem F_Mo_isSo_47 : fetch m_Mo_isSo 47 = some (.iconst 0) := by decide +kernel
theorem F_Mo_isSo_48 : fetch m_Mo_isSo 48 = some (.ireturn) := by decide +kernel
theorem F_Mo_isSo_49 : fetch m_Mo_isSo 49 = some (.aload_n 0) := by decide +kernel
theorem F_Mo_isSo_50 : fetch m_Mo_isSo 50 = some (.getfield 57) := by decide +kernel
theorem F_Mo_isSo_53 : fetch m_Mo_isSo 53 = some (.iload_n 1) := by decide +kernel
theorem F_Mo_isSo_54 : fetch m_Mo_isSo 54 = some (.iaload) := by decide +kernel
theorem F_Mo_isSo_55 : fetch m_Mo_isSo 55 = some (.aload_n 0) := by decide +kernel
theorem F_Mo_isSo_56 : fetch m_Mo_isSo 56 = some (.getfield 123) := by decide +kernel
theorem F_Mo_isSo_59 : fetch m_Mo_isSo 59 = some (.iload_n 2) := by decide +kernel
theorem F_Mo_isSo_60 : fetch m_Mo_isSo 60 = some (.laload) := by decide +kernel
theorem F_Mo_isSo_61 : fetch m_Mo_isSo 61 = some (.aload_n 0) := by decide +kernel
theorem F_Mo_isSo_62 : fetch m_Mo_isSo 62 = some (.getfield 126) := by decide +kernel
theorem F_Mo_isSo_65 : fetch m_Mo_isSo 65 = some (.iload_n 2) := by decide +kernel
theorem F_Mo_isSo_66 : fetch m_Mo_isSo 66 = some (.laload) := by decide +kernel
theorem F_Mo_isSo_67 : fetch m_Mo_isSo 67 = some (.aload_n 0) := by decide +kernel
theorem F_Mo_isSo_68 : fetch m_Mo_isSo 68 = some (.getfield 60) := by decide +kernel
theorem F_Mo_isSo_71 : fetch m_Mo_isSo 71 = some (.iload_n 1) := by decide +kernel
theorem F_Mo_isSo_72 : fetch m_Mo_isSo 72 = some (.laload) := by decide +kernel
theorem F_Mo_isSo_73 : fetch m_Mo_isSo 73 = some (.aload_n 0) := by decide +kernel
theorem F_Mo_isSo_74 : fetch m_Mo_isSo 74 = some (.getfield 63) := by decide +kernel
theorem F_Mo_isSo_77 : fetch m_Mo_isSo 77 = some (.iload_n 1) := by decide +kernel
theorem F_Mo_isSo_78 : fetch m_Mo_isSo 78 = some (.laload) := by decide +kernel
theorem F_Mo_isSo_79 : fetch m_Mo_isSo 79 = some (.invokestatic 264) := by decide +kernel
theorem F_Mo_isSo_82 : fetch m_Mo_isSo 82 = some (.invokestatic 268) := by decide +kernel
theorem F_Mo_isSo_85 : fetch m_Mo_isSo 85 = some (.ireturn) := by decide +kernel
theorem F_Mo_compares_0 : fetch m_Mo_compares 0 = some (.iload_n 0) := by decide +kernel
theorem F_Mo_compares_1 : fetch m_Mo_compares 1 = some (.ifCond .ne 15) := by decide +kernel
theorem F_Mo_compares_4 : fetch m_Mo_compares 4 = some (.iload_n 1) := by decide +kernel
theorem F_Mo_compares_5 : fetch m_Mo_compares 5 = some (.ifCond .ge 7) := by decide +kernel
theorem F_Mo_compares_8 : fetch m_Mo_compares 8 = some (.iconst 1) := by decide +kernel
theorem F_Mo_compares_9 : fetch m_Mo_compares 9 = some (.goto 67) := by decide +kernel
theorem F_Mo_compares_12 : fetch m_Mo_compares 12 = some (.iconst 0) := by decide +kernel
theorem F_Mo_compares_13 : fetch m_Mo_compares 13 = some (.goto 63) := by decide +kernel
theorem F_Mo_compares_16 : fetch m_Mo_compares 16 = some (.iload_n 0) := by decide +kernel
theorem F_Mo_compares_17 : fetch m_Mo_compares 17 = some (.iconst 1) := by decide +kernel
theorem F_Mo_compares_18 : fetch m_Mo_compares 18 = some (.if_icmp .ne 15) := by decide +kernel
theorem F_Mo_compares_21 : fetch m_Mo_compares 21 = some (.iload_n 1) := by decide +kernel
theorem F_Mo_compares_22 : fetch m_Mo_compares 22 = some (.ifCond .gt 7) := by decide +kernel
theorem F_Mo_compares_25 : fetch m_Mo_compares 25 = some (.iconst 1) := by decide +kernel
theorem F_Mo_compares_26 : fetch m_Mo_compares 26 = some (.goto 50) := by decide +kernel
theorem F_Mo_compares_29 : fetch m_Mo_compares 29 = some (.iconst 0) := by decide +kernel
theorem F_Mo_compares_30 : fetch m_Mo_compares 30 = some (.goto 46) := by decide +kernel
theorem F_Mo_compares_33 : fetch m_Mo_compares 33 = some (.iload_n 0) := by decide +kernel
theorem F_Mo_compares_34 : fetch m_Mo_compares 34 = some (.iconst 2) := by decide +kernel
theorem F_Mo_compares_35 : fetch m_Mo_compares 35 = some (.if_icmp .ne 15) := by decide +kernel
theorem F_Mo_compares_38 : fetch m_Mo_compares 38 = some (.iload_n 1) := by decide +kernel
theorem F_Mo_compares_39 : fetch m_Mo_compares 39 = some (.ifCond .ne 7) := by decide +kernel
theorem F_Mo_compares_42 : fetch m_Mo_compares 42 = some (.iconst 1) := by decide +kernel
theorem F_Mo_compares_43 : fetch m_Mo_compares 43 = some (.goto 33) := by decide +kernel
theorem F_Mo_compares_46 : fetch m_Mo_compares 46 = some (.iconst 0) := by decide +kernel
theorem F_Mo_compares_47 : fetch m_Mo_compares 47 = some (.goto 29) := by decide +kernel
theorem F_Mo_compares_50 : fetch m_Mo_compares 50 = some (.iload_n 0) := by decide +kernel
theorem F_Mo_compares_51 : fetch m_Mo_compares 51 = some (.iconst 3) := by decide +kernel
theorem F_Mo_compares_52 : fetch m_Mo_compares 52 = some (.if_icmp .ne 15) := by decide +kernel
theorem F_Mo_compares_55 : fetch m_Mo_compares 55 = some (.iload_n 1) := by decide +kernel
theorem F_Mo_compares_56 : fetch m_Mo_compares 56 = some (.ifCond .lt 7) := by decide +kernel
theorem F_Mo_compares_59 : fetch m_Mo_compares 59 = some (.iconst 1) := by decide +kernel
theorem F_Mo_compares_60 : fetch m_Mo_compares 60 = some (.goto 16) := by decide +kernel
theorem F_Mo_compares_63 : fetch m_Mo_compares 63 = some (.iconst 0) := by decide +kernel
theorem F_Mo_compares_64 : fetch m_Mo_compares 64 = some (.goto 12) := by decide +kernel
theorem F_Mo_compares_67 : fetch m_Mo_compares 67 = some (.iload_n 1) := by decide +kernel
theorem F_Mo_compares_68 : fetch m_Mo_compares 68 = some (.ifCond .le 7) := by decide +kernel
theorem F_Mo_compares_71 : fetch m_Mo_compares 71 = some (.iconst 1) := by decide +kernel
theorem F_Mo_compares_72 : fetch m_Mo_compares 72 = some (.goto 4) := by decide +kernel
theorem F_Mo_compares_75 : fetch m_Mo_compares 75 = some (.iconst 0) := by decide +kernel
theorem F_Mo_compares_76 : fetch m_Mo_compares 76 = some (.ireturn) := by decide +kernel
theorem F_Mo_lastsRight_0 : fetch m_Mo_lastsRight 0 = some (.aload_n 0) := by decide +kernel
theorem F_Mo_lastsRight_1 : fetch m_Mo_lastsRight 1 = some (.iload_n 1) := by decide +kernel
theorem F_Mo_lastsRight_2 : fetch m_Mo_lastsRight 2 = some (.iconst 0) := by decide +kernel
theorem F_Mo_lastsRight_3 : fetch m_Mo_lastsRight 3 = some (.invokevirtual 293) := by decide +kernel
theorem F_Mo_lastsRight_6 : fetch m_Mo_lastsRight 6 = some (.ifCond .eq 31) := by decide +kernel
theorem F_Mo_lastsRight_9 : fetch m_Mo_lastsRight 9 = some (.aload_n 0) := by decide +kernel
theorem F_Mo_lastsRight_10 : fetch m_Mo_lastsRight 10 = some (.getfield 102) := by decide +kernel
theorem F_Mo_lastsRight_13 : fetch m_Mo_lastsRight 13 = some (.iload_n 1) := by decide +kernel
theorem F_Mo_lastsRight_14 : fetch m_Mo_lastsRight 14 = some (.laload) := by decide +kernel
theorem F_Mo_lastsRight_15 : fetch m_Mo_lastsRight 15 = some (.aload_n 0) := by decide +kernel
theorem F_Mo_lastsRight_16 : fetch m_Mo_lastsRight 16 = some (.getfield 105) := by decide +kernel
theorem F_Mo_lastsRight_19 : fetch m_Mo_lastsRight 19 = some (.iload_n 1) := by decide +kernel
theorem F_Mo_lastsRight_20 : fetch m_Mo_lastsRight 20 = some (.laload) := by decide +kernel
theorem F_Mo_lastsRight_21 : fetch m_Mo_lastsRight 21 = some (.aload_n 0) := by decide +kernel
theorem F_Mo_lastsRight_22 : fetch m_Mo_lastsRight 22 = some (.getfield 189) := by decide +kernel
theorem F_Mo_lastsRight_25 : fetch m_Mo_lastsRight 25 = some (.aload_n 0) := by decide +kernel
theorem F_Mo_lastsRight_26 : fetch m_Mo_lastsRight 26 = some (.getfield 192) := by decide +kernel
theorem F_Mo_lastsRight_29 : fetch m_Mo_lastsRight 29 = some (.invokestatic 264) := by decide +kernel
theorem F_Mo_lastsRight_32 : fetch m_Mo_lastsRight 32 = some (.ifCond .ge 5) := by decide +kernel
theorem F_Mo_lastsRight_35 : fetch m_Mo_lastsRight 35 = some (.iconst 0) := by decide +kernel
theorem F_Mo_lastsRight_36 : fetch m_Mo_lastsRight 36 = some (.ireturn) := by decide +kernel
theorem F_Mo_lastsRight_37 : fetch m_Mo_lastsRight 37 = some (.aload_n 0) := by decide +kernel
theorem F_Mo_lastsRight_38 : fetch m_Mo_lastsRight 38 = some (.iload_n 1) := by decide +kernel
theorem F_Mo_lastsRight_39 : fetch m_Mo_lastsRight 39 = some (.iconst 1) := by decide +kernel
theorem F_Mo_lastsRight_40 : fetch m_Mo_lastsRight 40 = some (.invokevirtual 293) := by decide +kernel
theorem F_Mo_lastsRight_43 : fetch m_Mo_lastsRight 43 = some (.ifCond .eq 29) := by decide +kernel
theorem F_Mo_lastsRight_46 : fetch m_Mo_lastsRight 46 = some (.aload_n 0) := by decide +kernel
theorem F_Mo_lastsRight_47 : fetch m_Mo_lastsRight 47 = some (.getfield 102) := by decide +kernel
theorem F_Mo_lastsRight_50 : fetch m_Mo_lastsRight 50 = some (.iload_n 1) := by decide +kernel
theorem F_Mo_lastsRight_51 : fetch m_Mo_lastsRight 51 = some (.laload) := by decide +kernel
theorem F_Mo_lastsRight_52 : fetch m_Mo_lastsRight 52 = some (.aload_n 0) := by decide +kernel
theorem F_Mo_lastsRight_53 : fetch m_Mo_lastsRight 53 = some (.getfield 105) := by decide +kernel
theorem F_Mo_lastsRight_56 : fetch m_Mo_lastsRight 56 = some (.iload_n 1) := by decide +kernel
theorem F_Mo_lastsRight_57 : fetch m_Mo_lastsRight 57 = some (.laload) := by decide +kernel
theorem F_Mo_lastsRight_58 : fetch m_Mo_lastsRight 58 = some (.aload_n 0) := by decide +kernel
theorem F_Mo_lastsRight_59 : fetch m_Mo_lastsRight 59 = some (.getfield 189) := by decide +kernel
theorem F_Mo_lastsRight_62 : fetch m_Mo_lastsRight 62 = some (.aload_n 0) := by decide +kernel
theorem F_Mo_lastsRight_63 : fetch m_Mo_lastsRight 63 = some (.getfield 192) := by decide +kernel
theorem F_Mo_lastsRight_66 : fetch m_Mo_lastsRight 66 = some (.invokestatic 264) := by decide +kernel
theorem F_Mo_lastsRight_69 : fetch m_Mo_lastsRight 69 = some (.ifCond .gt 7) := by decide +kernel
theorem F_Mo_lastsRight_72 : fetch m_Mo_lastsRight 72 = some (.iconst 1) := by decide +kernel
theorem F_Mo_lastsRight_73 : fetch m_Mo_lastsRight 73 = some (.goto 4) := by decide +kernel
theorem F_Mo_lastsRight_76 : fetch m_Mo_lastsRight 76 = some (.iconst 0) := by decide +kernel
theorem F_Mo_lastsRight_77 : fetch m_Mo_lastsRight 77 = some (.ireturn) := by decide +kernel
theorem F_Mo_duration_0 : fetch m_Mo_duration 0 = some (.iconst 2) := by decide +kernel
theorem F_Mo_duration_1 : fetch m_Mo_duration 1 = some (.aload_n 0) := by decide +kernel
theorem F_Mo_duration_2 : fetch m_Mo_duration 2 = some (.getfield 111) := by decide +kernel
theorem F_Mo_duration_5 : fetch m_Mo_duration 5 = some (.iload_n 1) := by decide +kernel
theorem F_Mo_duration_6 : fetch m_Mo_duration 6 = some (.iaload) := by decide +kernel
theorem F_Mo_duration_7 : fetch m_Mo_duration 7 = some (.imul) := by decide +kernel
theorem F_Mo_duration_8 : fetch m_Mo_duration 8 = some (.iload_n 2) := by decide +kernel
theorem F_Mo_duration_9 : fetch m_Mo_duration 9 = some (.iadd) := by decide +kernel
theorem F_Mo_duration_10 : fetch m_Mo_duration 10 = some (.istore_n 3) := by decide +kernel
theorem F_Mo_duration_11 : fetch m_Mo_duration 11 = some (.aload_n 0) := by decide +kernel
theorem F_Mo_duration_12 : fetch m_Mo_duration 12 = some (.getfield 84) := by decide +kernel
theorem F_Mo_duration_15 : fetch m_Mo_duration 15 = some (.iload_n 3) := by decide +kernel
theorem F_Mo_duration_16 : fetch m_Mo_duration 16 = some (.iaload) := by decide +kernel
theorem F_Mo_duration_17 : fetch m_Mo_duration 17 = some (.bipush (-2)) := by decide +kernel
theorem F_Mo_duration_19 : fetch m_Mo_duration 19 = some (.if_icmp .ne 5) := by decide +kernel
theorem F_Mo_duration_22 : fetch m_Mo_duration 22 = some (.iconst 0) := by decide +kernel
theorem F_Mo_duration_23 : fetch m_Mo_duration 23 = some (.ireturn) := by decide +kernel
theorem F_Mo_duration_24 : fetch m_Mo_duration 24 = some (.aload_n 0) := by decide +kernel
theorem F_Mo_duration_25 : fetch m_Mo_duration 25 = some (.getfield 84) := by decide +kernel
theorem F_Mo_duration_28 : fetch m_Mo_duration 28 = some (.iload_n 3) := by decide +kernel
theorem F_Mo_duration_29 : fetch m_Mo_duration 29 = some (.iaload) := by decide +kernel
theorem F_Mo_duration_30 : fetch m_Mo_duration 30 = some (.iconst (-1)) := by decide +kernel
theorem F_Mo_duration_31 : fetch m_Mo_duration 31 = some (.if_icmp .ne 22) := by decide +kernel
theorem F_Mo_duration_34 : fetch m_Mo_duration 34 = some (.aload_n 0) := by decide +kernel
theorem F_Mo_duration_35 : fetch m_Mo_duration 35 = some (.aload_n 0) := by decide +kernel
theorem F_Mo_duration_36 : fetch m_Mo_duration 36 = some (.getfield 87) := by decide +kernel
theorem F_Mo_duration_39 : fetch m_Mo_duration 39 = some (.iload_n 3) := by decide +kernel
theorem F_Mo_duration_40 : fetch m_Mo_duration 40 = some (.laload) := by decide +kernel
theorem F_Mo_duration_41 : fetch m_Mo_duration 41 = some (.aload_n 0) := by decide +kernel
theorem F_Mo_duration_42 : fetch m_Mo_duration 42 = some (.getfield 90) := by decide +kernel
theorem F_Mo_duration_45 : fetch m_Mo_duration 45 = some (.iload_n 3) := by decide +kernel
theorem F_Mo_duration_46 : fetch m_Mo_duration 46 = some (.laload) := by decide +kernel
theorem F_Mo_duration_47 : fetch m_Mo_duration 47 = some (.invokevirtual 208) := by decide +kernel
theorem F_Mo_duration_50 : fetch m_Mo_duration 50 = some (.goto 43) := by decide +kernel
theorem F_Mo_duration_53 : fetch m_Mo_duration 53 = some (.aload_n 0) := by decide +kernel
theorem F_Mo_duration_54 : fetch m_Mo_duration 54 = some (.aload_n 0) := by decide +kernel
theorem F_Mo_duration_55 : fetch m_Mo_duration 55 = some (.getfield 123) := by decide +kernel
theorem F_Mo_duration_58 : fetch m_Mo_duration 58 = some (.aload_n 0) := by decide +kernel
theorem F_Mo_duration_59 : fetch m_Mo_duration 59 = some (.getfield 84) := by decide +kernel
theorem F_Mo_duration_62 : fetch m_Mo_duration 62 = some (.iload_n 3) := by decide +kernel
theorem F_Mo_duration_63 : fetch m_Mo_duration 63 = some (.iaload) := by decide +kernel
theorem F_Mo_duration_64 : fetch m_Mo_duration 64 = some (.laload) := by decide +kernel
theorem F_Mo_duration_65 : fetch m_Mo_duration 65 = some (.aload_n 0) := by decide +kernel
theorem F_Mo_duration_66 : fetch m_Mo_duration 66 = some (.getfield 87) := by decide +kernel
theorem F_Mo_duration_69 : fetch m_Mo_duration 69 = some (.iload_n 3) := by decide +kernel
theorem F_Mo_duration_70 : fetch m_Mo_duration 70 = some (.laload) := by decide +kernel
theorem F_Mo_duration_71 : fetch m_Mo_duration 71 = some (.lmul) := by decide +kernel
theorem F_Mo_duration_72 : fetch m_Mo_duration 72 = some (.aload_n 0) := by decide +kernel
theorem F_Mo_duration_73 : fetch m_Mo_duration 73 = some (.getfield 126) := by decide +kernel
theorem F_Mo_duration_76 : fetch m_Mo_duration 76 = some (.aload_n 0) := by decide +kernel
theorem F_Mo_duration_77 : fetch m_Mo_duration 77 = some (.getfield 84) := by decide +kernel
theorem F_Mo_duration_80 : fetch m_Mo_duration 80 = some (.iload_n 3) := by decide +kernel
theorem F_Mo_duration_81 : fetch m_Mo_duration 81 = some (.iaload) := by decide +kernel
theorem F_Mo_duration_82 : fetch m_Mo_duration 82 = some (.laload) := by decide +kernel
theorem F_Mo_duration_83 : fetch m_Mo_duration 83 = some (.aload_n 0) := by decide +kernel
theorem F_Mo_duration_84 : fetch m_Mo_duration 84 = some (.getfield 90) := by decide +kernel
theorem F_Mo_duration_87 : fetch m_Mo_duration 87 = some (.iload_n 3) := by decide +kernel
theorem F_Mo_duration_88 : fetch m_Mo_duration 88 = some (.laload) := by decide +kernel
theorem F_Mo_duration_89 : fetch m_Mo_duration 89 = some (.lmul) := by decide +kernel
theorem F_Mo_duration_90 : fetch m_Mo_duration 90 = some (.invokevirtual 208) := by decide +kernel
theorem F_Mo_duration_93 : fetch m_Mo_duration 93 = some (.iconst 1) := by decide +kernel
theorem F_Mo_duration_94 : fetch m_Mo_duration 94 = some (.ireturn) := by decide +kernel
theorem F_Mo_keepState_0 : fetch m_Mo_keepState 0 = some (.iconst 0) := by decide +kernel
theorem F_Mo_keepState_1 : fetch m_Mo_keepState 1 = some (.istore_n 1) := by decide +kernel
theorem F_Mo_keepState_2 : fetch m_Mo_keepState 2 = some (.iload_n 1) := by decide +kernel
theorem F_Mo_keepState_3 : fetch m_Mo_keepState 3 = some (.bipush 16) := by decide +kernel
theorem F_Mo_keepState_5 : fetch m_Mo_keepState 5 = some (.if_icmp .ge 21) := by decide +kernel
theorem F_Mo_keepState_8 : fetch m_Mo_keepState 8 = some (.aload_n 0) := by decide +kernel
theorem F_Mo_keepState_9 : fetch m_Mo_keepState 9 = some (.getfield 129) := by decide +kernel
theorem F_Mo_keepState_12 : fetch m_Mo_keepState 12 = some (.iload_n 1) := by decide +kernel
theorem F_Mo_keepState_13 : fetch m_Mo_keepState 13 = some (.aload_n 0) := by decide +kernel
theorem F_Mo_keepState_14 : fetch m_Mo_keepState 14 = some (.getfield 120) := by decide +kernel
theorem F_Mo_keepState_17 : fetch m_Mo_keepState 17 = some (.iload_n 1) := by decide +kernel
theorem F_Mo_keepState_18 : fetch m_Mo_keepState 18 = some (.baload) := by decide +kernel
theorem F_Mo_keepState_19 : fetch m_Mo_keepState 19 = some (.bastore) := by decide +kernel
theorem F_Mo_keepState_20 : fetch m_Mo_keepState 20 = some (.iinc 1 1) := by decide +kernel
theorem F_Mo_keepState_23 : fetch m_Mo_keepState 23 = some (.goto (-21)) := by decide +kernel
theorem F_Mo_keepState_26 : fetch m_Mo_keepState 26 = some (.iconst 0) := by decide +kernel
theorem F_Mo_keepState_27 : fetch m_Mo_keepState 27 = some (.istore_n 1) := by decide +kernel
theorem F_Mo_keepState_28 : fetch m_Mo_keepState 28 = some (.iload_n 1) := by decide +kernel
theorem F_Mo_keepState_29 : fetch m_Mo_keepState 29 = some (.bipush 8) := by decide +kernel
theorem F_Mo_keepState_31 : fetch m_Mo_keepState 31 = some (.if_icmp .ge 33) := by decide +kernel
theorem F_Mo_keepState_34 : fetch m_Mo_keepState 34 = some (.aload_n 0) := by decide +kernel
theorem F_Mo_keepState_35 : fetch m_Mo_keepState 35 = some (.getfield 132) := by decide +kernel
theorem F_Mo_keepState_38 : fetch m_Mo_keepState 38 = some (.iload_n 1) := by decide +kernel
theorem F_Mo_keepState_39 : fetch m_Mo_keepState 39 = some (.aload_n 0) := by decide +kernel
theorem F_Mo_keepState_40 : fetch m_Mo_keepState 40 = some (.getfield 123) := by decide +kernel
theorem F_Mo_keepState_43 : fetch m_Mo_keepState 43 = some (.iload_n 1) := by decide +kernel
theorem F_Mo_keepState_44 : fetch m_Mo_keepState 44 = some (.laload) := by decide +kernel
theorem F_Mo_keepState_45 : fetch m_Mo_keepState 45 = some (.lastore) := by decide +kernel
theorem F_Mo_keepState_46 : fetch m_Mo_keepState 46 = some (.aload_n 0) := by decide +kernel
theorem F_Mo_keepState_47 : fetch m_Mo_keepState 47 = some (.getfield 135) := by decide +kernel
theorem F_Mo_keepState_50 : fetch m_Mo_keepState 50 = some (.iload_n 1) := by decide +kernel
theorem F_Mo_keepState_51 : fetch m_Mo_keepState 51 = some (.aload_n 0) := by decide +kernel
theorem F_Mo_keepState_52 : fetch m_Mo_keepState 52 = some (.getfield 126) := by decide +kernel
theorem F_Mo_keepState_55 : fetch m_Mo_keepState 55 = some (.iload_n 1) := by decide +kernel
theorem F_Mo_keepState_56 : fetch m_Mo_keepState 56 = some (.laload) := by decide +kernel
theorem F_Mo_keepState_57 : fetch m_Mo_keepState 57 = some (.lastore) := by decide +kernel
theorem F_Mo_keepState_58 : fetch m_Mo_keepState 58 = some (.iinc 1 1) := by decide +kernel
theorem F_Mo_keepState_61 : fetch m_Mo_keepState 61 = some (.goto (-33)) := by decide +kernel
theorem F_Mo_keepState_64 : fetch m_Mo_keepState 64 = some (.return_) := by decide +kernel
theorem F_Mo_allChanged_0 : fetch m_Mo_allChanged 0 = some (.aload_n 0) := by decide +kernel
theorem F_Mo_allChanged_1 : fetch m_Mo_allChanged 1 = some (.getfield 111) := by decide +kernel
theorem F_Mo_allChanged_4 : fetch m_Mo_allChanged 4 = some (.iload_n 1) := by decide +kernel
theorem F_Mo_allChanged_5 : fetch m_Mo_allChanged 5 = some (.iconst 2) := by decide +kernel
theorem F_Mo_allChanged_6 : fetch m_Mo_allChanged 6 = some (.idiv) := by decide +kernel
theorem F_Mo_allChanged_7 : fetch m_Mo_allChanged 7 = some (.iaload) := by decide +kernel
theorem F_Mo_allChanged_8 : fetch m_Mo_allChanged 8 = some (.istore_n 2) := by decide +kernel
theorem F_Mo_allChanged_9 : fetch m_Mo_allChanged 9 = some (.bipush 6) := by decide +kernel
theorem F_Mo_allChanged_11 : fetch m_Mo_allChanged 11 = some (.iload_n 2) := by decide +kernel
theorem F_Mo_allChanged_12 : fetch m_Mo_allChanged 12 = some (.imul) := by decide +kernel
theorem F_Mo_allChanged_13 : fetch m_Mo_allChanged 13 = some (.istore_n 3) := by decide +kernel
theorem F_Mo_allChanged_14 : fetch m_Mo_allChanged 14 = some (.iload_n 3) := by decide +kernel
theorem F_Mo_allChanged_15 : fetch m_Mo_allChanged 15 = some (.bipush 6) := by decide +kernel
theorem F_Mo_allChanged_17 : fetch m_Mo_allChanged 17 = some (.iload_n 2) := by decide +kernel
theorem F_Mo_allChanged_18 : fetch m_Mo_allChanged 18 = some (.imul) := by decide +kernel
theorem F_Mo_allChanged_19 : fetch m_Mo_allChanged 19 = some (.aload_n 0) := by decide +kernel
theorem F_Mo_allChanged_20 : fetch m_Mo_allChanged 20 = some (.getfield 66) := by decide +kernel
theorem F_Mo_allChanged_23 : fetch m_Mo_allChanged 23 = some (.iload_n 2) := by decide +kernel
theorem F_Mo_allChanged_24 : fetch m_Mo_allChanged 24 = some (.iaload) := by decide +kernel
theorem F_Mo_allChanged_25 : fetch m_Mo_allChanged 25 = some (.iadd) := by decide +kernel
theorem F_Mo_allChanged_26 : fetch m_Mo_allChanged 26 = some (.if_icmp .ge 68) := by decide +kernel
theorem F_Mo_allChanged_29 : fetch m_Mo_allChanged 29 = some (.aload_n 0) := by decide +kernel
theorem F_Mo_allChanged_30 : fetch m_Mo_allChanged 30 = some (.getfield 69) := by decide +kernel
theorem F_Mo_allChanged_33 : fetch m_Mo_allChanged 33 = some (.iload_n 3) := by decide +kernel
theorem F_Mo_allChanged_34 : fetch m_Mo_allChanged 34 = some (.iaload) := by decide +kernel
theorem F_Mo_allChanged_35 : fetch m_Mo_allChanged 35 = some (.iload_n 1) := by decide +kernel
theorem F_Mo_allChanged_36 : fetch m_Mo_allChanged 36 = some (.invokestatic 248) := by decide +kernel
theorem F_Mo_allChanged_39 : fetch m_Mo_allChanged 39 = some (.if_icmp .eq 6) := by decide +kernel
theorem F_Mo_allChanged_42 : fetch m_Mo_allChanged 42 = some (.goto 46) := by decide +kernel
theorem F_Mo_allChanged_45 : fetch m_Mo_allChanged 45 = some (.aload_n 0) := by decide +kernel
theorem F_Mo_allChanged_46 : fetch m_Mo_allChanged 46 = some (.iload_n 3) := by decide +kernel
theorem F_Mo_allChanged_47 : fetch m_Mo_allChanged 47 = some (.invokevirtual 274) := by decide +kernel
theorem F_Mo_allChanged_50 : fetch m_Mo_allChanged 50 = some (.aload_n 0) := by decide +kernel
theorem F_Mo_allChanged_51 : fetch m_Mo_allChanged 51 = some (.getfield 75) := by decide +kernel
theorem F_Mo_allChanged_54 : fetch m_Mo_allChanged 54 = some (.iload_n 3) := by decide +kernel
theorem F_Mo_allChanged_55 : fetch m_Mo_allChanged 55 = some (.iaload) := by decide +kernel
theorem F_Mo_allChanged_56 : fetch m_Mo_allChanged 56 = some (.bipush 9) := by decide +kernel
theorem F_Mo_allChanged_58 : fetch m_Mo_allChanged 58 = some (.if_icmp .ge 30) := by decide +kernel
theorem F_Mo_allChanged_61 : fetch m_Mo_allChanged 61 = some (.aload_n 0) := by decide +kernel
theorem F_Mo_allChanged_62 : fetch m_Mo_allChanged 62 = some (.getfield 189) := by decide +kernel
theorem F_Mo_allChanged_65 : fetch m_Mo_allChanged 65 = some (.invokestatic 181) := by decide +kernel
theorem F_Mo_allChanged_68 : fetch m_Mo_allChanged 68 = some (.ldc2_w 278) := by decide +kernel
theorem F_Mo_allChanged_71 : fetch m_Mo_allChanged 71 = some (.lcmp) := by decide +kernel
theorem F_Mo_allChanged_72 : fetch m_Mo_allChanged 72 = some (.ifCond .gt 14) := by decide +kernel
theorem F_Mo_allChanged_75 : fetch m_Mo_allChanged 75 = some (.aload_n 0) := by decide +kernel
theorem F_Mo_allChanged_76 : fetch m_Mo_allChanged 76 = some (.getfield 192) := by decide +kernel
theorem F_Mo_allChanged_79 : fetch m_Mo_allChanged 79 = some (.ldc2_w 278) := by decide +kernel
theorem F_Mo_allChanged_82 : fetch m_Mo_allChanged 82 = some (.lcmp) := by decide +kernel
theorem F_Mo_allChanged_83 : fetch m_Mo_allChanged 83 = some (.ifCond .le 5) := by decide +kernel
theorem F_Mo_allChanged_86 : fetch m_Mo_allChanged 86 = some (.iconst 0) := by decide +kernel
theorem F_Mo_allChanged_87 : fetch m_Mo_allChanged 87 = some (.ireturn) := by decide +kernel
theorem F_Mo_allChanged_88 : fetch m_Mo_allChanged 88 = some (.iinc 3 1) := by decide +kernel
theorem F_Mo_allChanged_91 : fetch m_Mo_allChanged 91 = some (.goto (-77)) := by decide +kernel
theorem F_Mo_allChanged_94 : fetch m_Mo_allChanged 94 = some (.iconst 1) := by decide +kernel
theorem F_Mo_allChanged_95 : fetch m_Mo_allChanged 95 = some (.ireturn) := by decide +kernel
theorem F_Mo_changed_0 : fetch m_Mo_changed 0 = some (.aload_n 0) := by decide +kernel
theorem F_Mo_changed_1 : fetch m_Mo_changed 1 = some (.getfield 72) := by decide +kernel
theorem F_Mo_changed_4 : fetch m_Mo_changed 4 = some (.iload_n 1) := by decide +kernel
theorem F_Mo_changed_5 : fetch m_Mo_changed 5 = some (.iaload) := by decide +kernel
theorem F_Mo_changed_6 : fetch m_Mo_changed 6 = some (.istore_n 2) := by decide +kernel
theorem F_Mo_changed_7 : fetch m_Mo_changed 7 = some (.aload_n 0) := by decide +kernel
theorem F_Mo_changed_8 : fetch m_Mo_changed 8 = some (.getfield 75) := by decide +kernel
theorem F_Mo_changed_11 : fetch m_Mo_changed 11 = some (.iload_n 1) := by decide +kernel
theorem F_Mo_changed_12 : fetch m_Mo_changed 12 = some (.iaload) := by decide +kernel
theorem F_Mo_changed_13 : fetch m_Mo_changed 13 = some (.istore_n 3) := by decide +kernel
theorem F_Mo_changed_14 : fetch m_Mo_changed 14 = some (.iload_n 3) := by decide +kernel
theorem F_Mo_changed_15 : fetch m_Mo_changed 15 = some (.bipush 9) := by decide +kernel
theorem F_Mo_changed_17 : fetch m_Mo_changed 17 = some (.if_icmp .le 21) := by decide +kernel
theorem F_Mo_changed_20 : fetch m_Mo_changed 20 = some (.aload_n 0) := by decide +kernel
theorem F_Mo_changed_21 : fetch m_Mo_changed 21 = some (.getfield 120) := by decide +kernel
theorem F_Mo_changed_24 : fetch m_Mo_changed 24 = some (.iload_n 2) := by decide +kernel
theorem F_Mo_changed_25 : fetch m_Mo_changed 25 = some (.iload_n 3) := by decide +kernel
theorem F_Mo_changed_26 : fetch m_Mo_changed 26 = some (.bipush 11) := by decide +kernel
theorem F_Mo_changed_28 : fetch m_Mo_changed 28 = some (.if_icmp .ne 7) := by decide +kernel
theorem F_Mo_changed_31 : fetch m_Mo_changed 31 = some (.iconst 1) := by decide +kernel
theorem F_Mo_changed_32 : fetch m_Mo_changed 32 = some (.goto 4) := by decide +kernel
theorem F_Mo_changed_35 : fetch m_Mo_changed 35 = some (.iconst 0) := by decide +kernel
theorem F_Mo_changed_36 : fetch m_Mo_changed 36 = some (.bastore) := by decide +kernel
theorem F_Mo_changed_37 : fetch m_Mo_changed 37 = some (.return_) := by decide +kernel
theorem F_Mo_changed_38 : fetch m_Mo_changed 38 = some (.aload_n 0) := by decide +kernel
theorem F_Mo_changed_39 : fetch m_Mo_changed 39 = some (.getfield 78) := by decide +kernel
theorem F_Mo_changed_42 : fetch m_Mo_changed 42 = some (.iload_n 1) := by decide +kernel
theorem F_Mo_changed_43 : fetch m_Mo_changed 43 = some (.laload) := by decide +kernel
theorem F_Mo_changed_44 : fetch m_Mo_changed 44 = some (.lstore 4) := by decide +kernel
theorem F_Mo_changed_46 : fetch m_Mo_changed 46 = some (.aload_n 0) := by decide +kernel
theorem F_Mo_changed_47 : fetch m_Mo_changed 47 = some (.getfield 81) := by decide +kernel
theorem F_Mo_changed_50 : fetch m_Mo_changed 50 = some (.iload_n 1) := by decide +kernel
theorem F_Mo_changed_51 : fetch m_Mo_changed 51 = some (.laload) := by decide +kernel
theorem F_Mo_changed_52 : fetch m_Mo_changed 52 = some (.lstore 6) := by decide +kernel
theorem F_Mo_changed_54 : fetch m_Mo_changed 54 = some (.iload_n 3) := by decide +kernel
theorem F_Mo_changed_55 : fetch m_Mo_changed 55 = some (.ifCond .ne 14) := by decide +kernel
theorem F_Mo_changed_58 : fetch m_Mo_changed 58 = some (.aload_n 0) := by decide +kernel
theorem F_Mo_changed_59 : fetch m_Mo_changed 59 = some (.lload 4) := by decide +kernel
theorem F_Mo_changed_61 : fetch m_Mo_changed 61 = some (.lload 6) := by decide +kernel
theorem F_Mo_changed_63 : fetch m_Mo_changed 63 = some (.invokevirtual 208) := by decide +kernel
theorem F_Mo_changed_66 : fetch m_Mo_changed 66 = some (.goto 76) := by decide +kernel
theorem F_Mo_changed_69 : fetch m_Mo_changed 69 = some (.iload_n 3) := by decide +kernel
theorem F_Mo_changed_70 : fetch m_Mo_changed 70 = some (.iconst 3) := by decide +kernel
theorem F_Mo_changed_71 : fetch m_Mo_changed 71 = some (.if_icmp .ne 28) := by decide +kernel
theorem F_Mo_changed_74 : fetch m_Mo_changed 74 = some (.aload_n 0) := by decide +kernel
theorem F_Mo_changed_75 : fetch m_Mo_changed 75 = some (.aload_n 0) := by decide +kernel
theorem F_Mo_changed_76 : fetch m_Mo_changed 76 = some (.getfield 123) := by decide +kernel
theorem F_Mo_changed_79 : fetch m_Mo_changed 79 = some (.iload_n 2) := by decide +kernel
theorem F_Mo_changed_80 : fetch m_Mo_changed 80 = some (.laload) := by decide +kernel
theorem F_Mo_changed_81 : fetch m_Mo_changed 81 = some (.lload 4) := by decide +kernel
theorem F_Mo_changed_83 : fetch m_Mo_changed 83 = some (.lmul) := by decide +kernel
theorem F_Mo_changed_84 : fetch m_Mo_changed 84 = some (.aload_n 0) := by decide +kernel
theorem F_Mo_changed_85 : fetch m_Mo_changed 85 = some (.getfield 126) := by decide +kernel
theorem F_Mo_changed_88 : fetch m_Mo_changed 88 = some (.iload_n 2) := by decide +kernel
theorem F_Mo_changed_89 : fetch m_Mo_changed 89 = some (.laload) := by decide +kernel
theorem F_Mo_changed_90 : fetch m_Mo_changed 90 = some (.lload 6) := by decide +kernel
theorem F_Mo_changed_92 : fetch m_Mo_changed 92 = some (.lmul) := by decide +kernel
theorem F_Mo_changed_93 : fetch m_Mo_changed 93 = some (.invokevirtual 208) := by decide +kernel
theorem F_Mo_changed_96 : fetch m_Mo_changed 96 = some (.goto 46) := by decide +kernel
theorem F_Mo_changed_99 : fetch m_Mo_changed 99 = some (.aload_n 0) := by decide +kernel
theorem F_Mo_changed_100 : fetch m_Mo_changed 100 = some (.aload_n 0) := by decide +kernel
theorem F_Mo_changed_101 : fetch m_Mo_changed 101 = some (.getfield 123) := by decide +kernel
theorem F_Mo_changed_104 : fetch m_Mo_changed 104 = some (.iload_n 2) := by decide +kernel
theorem F_Mo_changed_105 : fetch m_Mo_changed 105 = some (.laload) := by decide +kernel
theorem F_Mo_changed_106 : fetch m_Mo_changed 106 = some (.lload 6) := by decide +kernel
theorem F_Mo_changed_108 : fetch m_Mo_changed 108 = some (.lmul) := by decide +kernel
theorem F_Mo_changed_109 : fetch m_Mo_changed 109 = some (.iload_n 3) := by decide +kernel
theorem F_Mo_changed_110 : fetch m_Mo_changed 110 = some (.iconst 1) := by decide +kernel
theorem F_Mo_changed_111 : fetch m_Mo_changed 111 = some (.if_icmp .ne 8) := by decide +kernel
theorem F_Mo_changed_114 : fetch m_Mo_changed 114 = some (.lload 4) := by decide +kernel
theorem F_Mo_changed_116 : fetch m_Mo_changed 116 = some (.goto 6) := by decide +kernel
theorem F_Mo_changed_119 : fetch m_Mo_changed 119 = some (.lload 4) := by decide +kernel
theorem F_Mo_changed_121 : fetch m_Mo_changed 121 = some (.lneg) := by decide +kernel
theorem F_Mo_changed_122 : fetch m_Mo_changed 122 = some (.aload_n 0) := by decide +kernel
theorem F_Mo_changed_123 : fetch m_Mo_changed 123 = some (.getfield 126) := by decide +kernel
theorem F_Mo_changed_126 : fetch m_Mo_changed 126 = some (.iload_n 2) := by decide +kernel
theorem F_Mo_changed_127 : fetch m_Mo_changed 127 = some (.laload) := by decide +kernel
theorem F_Mo_changed_128 : fetch m_Mo_changed 128 = some (.lmul) := by decide +kernel
theorem F_Mo_changed_129 : fetch m_Mo_changed 129 = some (.ladd) := by decide +kernel
theorem F_Mo_changed_130 : fetch m_Mo_changed 130 = some (.aload_n 0) := by decide +kernel
theorem F_Mo_changed_131 : fetch m_Mo_changed 131 = some (.getfield 126) := by decide +kernel
theorem F_Mo_changed_134 : fetch m_Mo_changed 134 = some (.iload_n 2) := by decide +kernel
theorem F_Mo_changed_135 : fetch m_Mo_changed 135 = some (.laload) := by decide +kernel
theorem F_Mo_changed_136 : fetch m_Mo_changed 136 = some (.lload 6) := by decide +kernel
theorem F_Mo_changed_138 : fetch m_Mo_changed 138 = some (.lmul) := by decide +kernel
theorem F_Mo_changed_139 : fetch m_Mo_changed 139 = some (.invokevirtual 208) := by decide +kernel
theorem F_Mo_changed_142 : fetch m_Mo_changed 142 = some (.aload_n 0) := by decide +kernel
theorem F_Mo_changed_143 : fetch m_Mo_changed 143 = some (.getfield 123) := by decide +kernel
theorem F_Mo_changed_146 : fetch m_Mo_changed 146 = some (.iload_n 2) := by decide +kernel
theorem F_Mo_changed_147 : fetch m_Mo_changed 147 = some (.aload_n 0) := by decide +kernel
theorem F_Mo_changed_148 : fetch m_Mo_changed 148 = some (.getfield 189) := by decide +kernel
theorem F_Mo_changed_151 : fetch m_Mo_changed 151 = some (.lastore) := by decide +kernel
theorem F_Mo_changed_152 : fetch m_Mo_changed 152 = some (.aload_n 0) := by decide +kernel
theorem F_Mo_changed_153 : fetch m_Mo_changed 153 = some (.getfield 126) := by decide +kernel
theorem F_Mo_changed_156 : fetch m_Mo_changed 156 = some (.iload_n 2) := by decide +kernel
theorem F_Mo_changed_157 : fetch m_Mo_changed 157 = some (.aload_n 0) := by decide +kernel
theorem F_Mo_changed_158 : fetch m_Mo_changed 158 = some (.getfield 192) := by decide +kernel
theorem F_Mo_changed_161 : fetch m_Mo_changed 161 = some (.lastore) := by decide +kernel
theorem F_Mo_changed_162 : fetch m_Mo_changed 162 = some (.return_) := by decide +kernel
theorem F_Mo_oldState_0 : fetch m_Mo_oldState 0 = some (.iconst 0) := by decide +kernel
theorem F_Mo_oldState_1 : fetch m_Mo_oldState 1 = some (.istore_n 1) := by decide +kernel
theorem F_Mo_oldState_2 : fetch m_Mo_oldState 2 = some (.iload_n 1) := by decide +kernel
theorem F_Mo_oldState_3 : fetch m_Mo_oldState 3 = some (.bipush 16) := by decide +kernel
theorem F_Mo_oldState_5 : fetch m_Mo_oldState 5 = some (.if_icmp .ge 21) := by decide +kernel
theorem F_Mo_oldState_8 : fetch m_Mo_oldState 8 = some (.aload_n 0) := by decide +kernel
theorem F_Mo_oldState_9 : fetch m_Mo_oldState 9 = some (.getfield 120) := by decide +kernel
theorem F_Mo_oldState_12 : fetch m_Mo_oldState 12 = some (.iload_n 1) := by decide +kernel
theorem F_Mo_oldState_13 : fetch m_Mo_oldState 13 = some (.aload_n 0) := by decide +kernel
theorem F_Mo_oldState_14 : fetch m_Mo_oldState 14 = some (.getfield 129) := by decide +kernel
theorem F_Mo_oldState_17 : fetch m_Mo_oldState 17 = some (.iload_n 1) := by decide +kernel
theorem F_Mo_oldState_18 : fetch m_Mo_oldState 18 = some (.baload) := by decide +kernel
theorem F_Mo_oldState_19 : fetch m_Mo_oldState 19 = some (.bastore) := by decide +kernel
theorem F_Mo_oldState_20 : fetch m_Mo_oldState 20 = some (.iinc 1 1) := by decide +kernel
theorem F_Mo_oldState_23 : fetch m_Mo_oldState 23 = some (.goto (-21)) := by decide +kernel
theorem F_Mo_oldState_26 : fetch m_Mo_oldState 26 = some (.iconst 0) := by decide +kernel
theorem F_Mo_oldState_27 : fetch m_Mo_oldState 27 = some (.istore_n 1) := by decide +kernel
theorem F_Mo_oldState_28 : fetch m_Mo_oldState 28 = some (.iload_n 1) := by decide +kernel
theorem F_Mo_oldState_29 : fetch m_Mo_oldState 29 = some (.bipush 8) := by decide +kernel
theorem F_Mo_oldState_31 : fetch m_Mo_oldState 31 = some (.if_icmp .ge 33) := by decide +kernel
theorem F_Mo_oldState_34 : fetch m_Mo_oldState 34 = some (.aload_n 0) := by decide +kernel
theorem F_Mo_oldState_35 : fetch m_Mo_oldState 35 = some (.getfield 123) := by decide +kernel
theorem F_Mo_oldState_38 : fetch m_Mo_oldState 38 = some (.iload_n 1) := by decide +kernel
theorem F_Mo_oldState_39 : fetch m_Mo_oldState 39 = some (.aload_n 0) := by decide +kernel
theorem F_Mo_oldState_40 : fetch m_Mo_oldState 40 = some (.getfield 132) := by decide +kernel
theorem F_Mo_oldState_43 : fetch m_Mo_oldState 43 = some (.iload_n 1) := by decide +kernel
theorem F_Mo_oldState_44 : fetch m_Mo_oldState 44 = some (.laload) := by decide +kernel
theorem F_Mo_oldState_45 : fetch m_Mo_oldState 45 = some (.lastore) := by decide +kernel
theorem F_Mo_oldState_46 : fetch m_Mo_oldState 46 = some (.aload_n 0) := by decide +kernel
theorem F_Mo_oldState_47 : fetch m_Mo_oldState 47 = some (.getfield 126) := by decide +kernel
theorem F_Mo_oldState_50 : fetch m_Mo_oldState 50 = some (.iload_n 1) := by decide +kernel
theorem F_Mo_oldState_51 : fetch m_Mo_oldState 51 = some (.aload_n 0) := by decide +kernel
theorem F_Mo_oldState_52 : fetch m_Mo_oldState 52 = some (.getfield 135) := by decide +kernel
theorem F_Mo_oldState_55 : fetch m_Mo_oldState 55 = some (.iload_n 1) := by decide +kernel
theorem F_Mo_oldState_56 : fetch m_Mo_oldState 56 = some (.laload) := by decide +kernel
theorem F_Mo_oldState_57 : fetch m_Mo_oldState 57 = some (.lastore) := by decide +kernel
theorem F_Mo_oldState_58 : fetch m_Mo_oldState 58 = some (.iinc 1 1) := by decide +kernel
theorem F_Mo_oldState_61 : fetch m_Mo_oldState 61 = some (.goto (-33)) := by decide +kernel
theorem F_Mo_oldState_64 : fetch m_Mo_oldState 64 = some (.return_) := by decide +kernel
theorem F_Mo_isGoal_0 : fetch m_Mo_isGoal 0 = some (.iconst 1) := by decide +kernel
theorem F_Mo_isGoal_1 : fetch m_Mo_isGoal 1 = some (.istore_n 1) := by decide +kernel
theorem F_Mo_isGoal_2 : fetch m_Mo_isGoal 2 = some (.iconst 0) := by decide +kernel
theorem F_Mo_isGoal_3 : fetch m_Mo_isGoal 3 = some (.istore_n 2) := by decide +kernel
theorem F_Mo_isGoal_4 : fetch m_Mo_isGoal 4 = some (.iload_n 2) := by decide +kernel
theorem F_Mo_isGoal_5 : fetch m_Mo_isGoal 5 = some (.bipush 16) := by decide +kernel
theorem F_Mo_isGoal_7 : fetch m_Mo_isGoal 7 = some (.if_icmp .ge 52) := by decide +kernel
theorem F_Mo_isGoal_10 : fetch m_Mo_isGoal 10 = some (.iload_n 1) := by decide +kernel
theorem F_Mo_isGoal_11 : fetch m_Mo_isGoal 11 = some (.ifCond .eq 40) := by decide +kernel
theorem F_Mo_isGoal_14 : fetch m_Mo_isGoal 14 = some (.aload_n 0) := by decide +kernel
theorem F_Mo_isGoal_15 : fetch m_Mo_isGoal 15 = some (.getfield 35) := by decide +kernel
theorem F_Mo_isGoal_18 : fetch m_Mo_isGoal 18 = some (.iload_n 2) := by decide +kernel
theorem F_Mo_isGoal_19 : fetch m_Mo_isGoal 19 = some (.iaload) := by decide +kernel
theorem F_Mo_isGoal_20 : fetch m_Mo_isGoal 20 = some (.ifCond .lt 27) := by decide +kernel
theorem F_Mo_isGoal_23 : fetch m_Mo_isGoal 23 = some (.aload_n 0) := by decide +kernel
theorem F_Mo_isGoal_24 : fetch m_Mo_isGoal 24 = some (.getfield 120) := by decide +kernel
theorem F_Mo_isGoal_27 : fetch m_Mo_isGoal 27 = some (.iload_n 2) := by decide +kernel
theorem F_Mo_isGoal_28 : fetch m_Mo_isGoal 28 = some (.baload) := by decide +kernel
theorem F_Mo_isGoal_29 : fetch m_Mo_isGoal 29 = some (.aload_n 0) := by decide +kernel
theorem F_Mo_isGoal_30 : fetch m_Mo_isGoal 30 = some (.getfield 35) := by decide +kernel
theorem F_Mo_isGoal_33 : fetch m_Mo_isGoal 33 = some (.iload_n 2) := by decide +kernel
theorem F_Mo_isGoal_34 : fetch m_Mo_isGoal 34 = some (.iaload) := by decide +kernel
theorem F_Mo_isGoal_35 : fetch m_Mo_isGoal 35 = some (.iconst 1) := by decide +kernel
theorem F_Mo_isGoal_36 : fetch m_Mo_isGoal 36 = some (.if_icmp .ne 7) := by decide +kernel
theorem F_Mo_isGoal_39 : fetch m_Mo_isGoal 39 = some (.iconst 1) := by decide +kernel
theorem F_Mo_isGoal_40 : fetch m_Mo_isGoal 40 = some (.goto 4) := by decide +kernel
theorem F_Mo_isGoal_43 : fetch m_Mo_isGoal 43 = some (.iconst 0) := by decide +kernel
theorem F_Mo_isGoal_44 : fetch m_Mo_isGoal 44 = some (.if_icmp .ne 7) := by decide +kernel
theorem F_Mo_isGoal_47 : fetch m_Mo_isGoal 47 = some (.iconst 1) := by decide +kernel
theorem F_Mo_isGoal_48 : fetch m_Mo_isGoal 48 = some (.goto 4) := by decide +kernel
theorem F_Mo_isGoal_51 : fetch m_Mo_isGoal 51 = some (.iconst 0) := by decide +kernel
theorem F_Mo_isGoal_52 : fetch m_Mo_isGoal 52 = some (.istore_n 1) := by decide +kernel
theorem F_Mo_isGoal_53 : fetch m_Mo_isGoal 53 = some (.iinc 2 1) := by decide +kernel
theorem F_Mo_isGoal_56 : fetch m_Mo_isGoal 56 = some (.goto (-52)) := by decide +kernel
theorem F_Mo_isGoal_59 : fetch m_Mo_isGoal 59 = some (.iconst 0) := by decide +kernel
theorem F_Mo_isGoal_60 : fetch m_Mo_isGoal 60 = some (.istore_n 2) := by decide +kernel
theorem F_Mo_isGoal_61 : fetch m_Mo_isGoal 61 = some (.iload_n 2) := by decide +kernel
theorem F_Mo_isGoal_62 : fetch m_Mo_isGoal 62 = some (.bipush 8) := by decide +kernel
theorem F_Mo_isGoal_64 : fetch m_Mo_isGoal 64 = some (.if_icmp .ge 67) := by decide +kernel
theorem F_Mo_isGoal_67 : fetch m_Mo_isGoal 67 = some (.iload_n 1) := by decide +kernel
theorem F_Mo_isGoal_68 : fetch m_Mo_isGoal 68 = some (.ifCond .eq 55) := by decide +kernel
theorem F_Mo_isGoal_71 : fetch m_Mo_isGoal 71 = some (.aload_n 0) := by decide +kernel
theorem F_Mo_isGoal_72 : fetch m_Mo_isGoal 72 = some (.getfield 39) := by decide +kernel
theorem F_Mo_isGoal_75 : fetch m_Mo_isGoal 75 = some (.iload_n 2) := by decide +kernel
theorem F_Mo_isGoal_76 : fetch m_Mo_isGoal 76 = some (.iaload) := by decide +kernel
theorem F_Mo_isGoal_77 : fetch m_Mo_isGoal 77 = some (.ifCond .lt 42) := by decide +kernel
theorem F_Mo_isGoal_80 : fetch m_Mo_isGoal 80 = some (.aload_n 0) := by decide +kernel
theorem F_Mo_isGoal_81 : fetch m_Mo_isGoal 81 = some (.getfield 39) := by decide +kernel
theorem F_Mo_isGoal_84 : fetch m_Mo_isGoal 84 = some (.iload_n 2) := by decide +kernel
theorem F_Mo_isGoal_85 : fetch m_Mo_isGoal 85 = some (.iaload) := by decide +kernel
theorem F_Mo_isGoal_86 : fetch m_Mo_isGoal 86 = some (.aload_n 0) := by decide +kernel
theorem F_Mo_isGoal_87 : fetch m_Mo_isGoal 87 = some (.getfield 123) := by decide +kernel
theorem F_Mo_isGoal_90 : fetch m_Mo_isGoal 90 = some (.iload_n 2) := by decide +kernel
theorem F_Mo_isGoal_91 : fetch m_Mo_isGoal 91 = some (.laload) := by decide +kernel
theorem F_Mo_isGoal_92 : fetch m_Mo_isGoal 92 = some (.aload_n 0) := by decide +kernel
theorem F_Mo_isGoal_93 : fetch m_Mo_isGoal 93 = some (.getfield 126) := by decide +kernel
theorem F_Mo_isGoal_96 : fetch m_Mo_isGoal 96 = some (.iload_n 2) := by decide +kernel
theorem F_Mo_isGoal_97 : fetch m_Mo_isGoal 97 = some (.laload) := by decide +kernel
theorem F_Mo_isGoal_98 : fetch m_Mo_isGoal 98 = some (.aload_n 0) := by decide +kernel
theorem F_Mo_isGoal_99 : fetch m_Mo_isGoal 99 = some (.getfield 42) := by decide +kernel
theorem F_Mo_isGoal_102 : fetch m_Mo_isGoal 102 = some (.iload_n 2) := by decide +kernel
theorem F_Mo_isGoal_103 : fetch m_Mo_isGoal 103 = some (.laload) := by decide +kernel
theorem F_Mo_isGoal_104 : fetch m_Mo_isGoal 104 = some (.aload_n 0) := by decide +kernel
theorem F_Mo_isGoal_105 : fetch m_Mo_isGoal 105 = some (.getfield 45) := by decide +kernel
theorem F_Mo_isGoal_108 : fetch m_Mo_isGoal 108 = some (.iload_n 2) := by decide +kernel
theorem F_Mo_isGoal_109 : fetch m_Mo_isGoal 109 = some (.laload) := by decide +kernel
theorem F_Mo_isGoal_110 : fetch m_Mo_isGoal 110 = some (.invokestatic 264) := by decide +kernel
theorem F_Mo_isGoal_113 : fetch m_Mo_isGoal 113 = some (.invokestatic 268) := by decide +kernel
theorem F_Mo_isGoal_116 : fetch m_Mo_isGoal 116 = some (.ifCond .eq 7) := by decide +kernel
theorem F_Mo_isGoal_119 : fetch m_Mo_isGoal 119 = some (.iconst 1) := by decide +kernel
theorem F_Mo_isGoal_120 : fetch m_Mo_isGoal 120 = some (.goto 4) := by decide +kernel
theorem F_Mo_isGoal_123 : fetch m_Mo_isGoal 123 = some (.iconst 0) := by decide +kernel
theorem F_Mo_isGoal_124 : fetch m_Mo_isGoal 124 = some (.istore_n 1) := by decide +kernel
theorem F_Mo_isGoal_125 : fetch m_Mo_isGoal 125 = some (.iinc 2 1) := by decide +kernel
theorem F_Mo_isGoal_128 : fetch m_Mo_isGoal 128 = some (.goto (-67)) := by decide +kernel
theorem F_Mo_isGoal_131 : fetch m_Mo_isGoal 131 = some (.iload_n 1) := by decide +kernel
theorem F_Mo_isGoal_132 : fetch m_Mo_isGoal 132 = some (.ireturn) := by decide +kernel
theorem F_Mo_tell_0 : fetch m_Mo_tell 0 = some (.aload_n 0) := by decide +kernel
theorem F_Mo_tell_1 : fetch m_Mo_tell 1 = some (.iconst 1) := by decide +kernel
theorem F_Mo_tell_2 : fetch m_Mo_tell 2 = some (.putfield 320) := by decide +kernel
theorem F_Mo_tell_5 : fetch m_Mo_tell 5 = some (.aload_n 0) := by decide +kernel
theorem F_Mo_tell_6 : fetch m_Mo_tell 6 = some (.iload_n 1) := by decide +kernel
theorem F_Mo_tell_7 : fetch m_Mo_tell 7 = some (.putfield 324) := by decide +kernel
theorem F_Mo_tell_10 : fetch m_Mo_tell 10 = some (.aload_n 0) := by decide +kernel
theorem F_Mo_tell_11 : fetch m_Mo_tell 11 = some (.iload_n 1) := by decide +kernel
theorem F_Mo_tell_12 : fetch m_Mo_tell 12 = some (.iconst 1) := by decide +kernel
theorem F_Mo_tell_13 : fetch m_Mo_tell 13 = some (.iconst 5) := by decide +kernel
theorem F_Mo_tell_14 : fetch m_Mo_tell 14 = some (.invokestatic 200) := by decide +kernel
theorem F_Mo_tell_17 : fetch m_Mo_tell 17 = some (.ifCond .eq 10) := by decide +kernel
theorem F_Mo_tell_20 : fetch m_Mo_tell 20 = some (.aload_n 0) := by decide +kernel
theorem F_Mo_tell_21 : fetch m_Mo_tell 21 = some (.getfield 305) := by decide +kernel
theorem F_Mo_tell_24 : fetch m_Mo_tell 24 = some (.goto 4) := by decide +kernel
theorem F_Mo_tell_27 : fetch m_Mo_tell 27 = some (.iconst (-1)) := by decide +kernel
theorem F_Mo_tell_28 : fetch m_Mo_tell 28 = some (.putfield 138) := by decide +kernel
theorem F_Mo_tell_31 : fetch m_Mo_tell 31 = some (.iconst 0) := by decide +kernel
theorem F_Mo_tell_32 : fetch m_Mo_tell 32 = some (.istore_n 2) := by decide +kernel
theorem F_Mo_tell_33 : fetch m_Mo_tell 33 = some (.iload_n 2) := by decide +kernel
theorem F_Mo_tell_34 : fetch m_Mo_tell 34 = some (.bipush 16) := by decide +kernel
theorem F_Mo_tell_36 : fetch m_Mo_tell 36 = some (.if_icmp .ge 21) := by decide +kernel
theorem F_Mo_tell_39 : fetch m_Mo_tell 39 = some (.aload_n 0) := by decide +kernel
theorem F_Mo_tell_40 : fetch m_Mo_tell 40 = some (.getfield 142) := by decide +kernel
theorem F_Mo_tell_43 : fetch m_Mo_tell 43 = some (.iload_n 2) := by decide +kernel
theorem F_Mo_tell_44 : fetch m_Mo_tell 44 = some (.aload_n 0) := by decide +kernel
theorem F_Mo_tell_45 : fetch m_Mo_tell 45 = some (.getfield 120) := by decide +kernel
theorem F_Mo_tell_48 : fetch m_Mo_tell 48 = some (.iload_n 2) := by decide +kernel
theorem F_Mo_tell_49 : fetch m_Mo_tell 49 = some (.baload) := by decide +kernel
theorem F_Mo_tell_50 : fetch m_Mo_tell 50 = some (.bastore) := by decide +kernel
theorem F_Mo_tell_51 : fetch m_Mo_tell 51 = some (.iinc 2 1) := by decide +kernel
theorem F_Mo_tell_54 : fetch m_Mo_tell 54 = some (.goto (-21)) := by decide +kernel
theorem F_Mo_tell_57 : fetch m_Mo_tell 57 = some (.iconst 0) := by decide +kernel
theorem F_Mo_tell_58 : fetch m_Mo_tell 58 = some (.istore_n 2) := by decide +kernel
theorem F_Mo_tell_59 : fetch m_Mo_tell 59 = some (.iload_n 2) := by decide +kernel
theorem F_Mo_tell_60 : fetch m_Mo_tell 60 = some (.bipush 8) := by decide +kernel
theorem F_Mo_tell_62 : fetch m_Mo_tell 62 = some (.if_icmp .ge 33) := by decide +kernel
theorem F_Mo_tell_65 : fetch m_Mo_tell 65 = some (.aload_n 0) := by decide +kernel
theorem F_Mo_tell_66 : fetch m_Mo_tell 66 = some (.getfield 145) := by decide +kernel
theorem F_Mo_tell_69 : fetch m_Mo_tell 69 = some (.iload_n 2) := by decide +kernel
theorem F_Mo_tell_70 : fetch m_Mo_tell 70 = some (.aload_n 0) := by decide +kernel
theorem F_Mo_tell_71 : fetch m_Mo_tell 71 = some (.getfield 123) := by decide +kernel
theorem F_Mo_tell_74 : fetch m_Mo_tell 74 = some (.iload_n 2) := by decide +kernel
theorem F_Mo_tell_75 : fetch m_Mo_tell 75 = some (.laload) := by decide +kernel
theorem F_Mo_tell_76 : fetch m_Mo_tell 76 = some (.lastore) := by decide +kernel
theorem F_Mo_tell_77 : fetch m_Mo_tell 77 = some (.aload_n 0) := by decide +kernel
theorem F_Mo_tell_78 : fetch m_Mo_tell 78 = some (.getfield 148) := by decide +kernel
theorem F_Mo_tell_81 : fetch m_Mo_tell 81 = some (.iload_n 2) := by decide +kernel
theorem F_Mo_tell_82 : fetch m_Mo_tell 82 = some (.aload_n 0) := by decide +kernel
theorem F_Mo_tell_83 : fetch m_Mo_tell 83 = some (.getfield 126) := by decide +kernel
theorem F_Mo_tell_86 : fetch m_Mo_tell 86 = some (.iload_n 2) := by decide +kernel
theorem F_Mo_tell_87 : fetch m_Mo_tell 87 = some (.laload) := by decide +kernel
theorem F_Mo_tell_88 : fetch m_Mo_tell 88 = some (.lastore) := by decide +kernel
theorem F_Mo_tell_89 : fetch m_Mo_tell 89 = some (.iinc 2 1) := by decide +kernel
theorem F_Mo_tell_92 : fetch m_Mo_tell 92 = some (.goto (-33)) := by decide +kernel
theorem F_Mo_tell_95 : fetch m_Mo_tell 95 = some (.return_) := by decide +kernel
theorem F_Mo_push_0 : fetch m_Mo_push 0 = some (.aload_n 0) := by decide +kernel
theorem F_Mo_push_1 : fetch m_Mo_push 1 = some (.iload_n 1) := by decide +kernel
theorem F_Mo_push_2 : fetch m_Mo_push 2 = some (.iconst 0) := by decide +kernel
theorem F_Mo_push_3 : fetch m_Mo_push 3 = some (.iconst 2) := by decide +kernel
theorem F_Mo_push_4 : fetch m_Mo_push 4 = some (.aload_n 0) := by decide +kernel
theorem F_Mo_push_5 : fetch m_Mo_push 5 = some (.getfield 242) := by decide +kernel
theorem F_Mo_push_8 : fetch m_Mo_push 8 = some (.imul) := by decide +kernel
theorem F_Mo_push_9 : fetch m_Mo_push 9 = some (.iconst 1) := by decide +kernel
theorem F_Mo_push_10 : fetch m_Mo_push 10 = some (.isub) := by decide +kernel
theorem F_Mo_push_11 : fetch m_Mo_push 11 = some (.invokestatic 200) := by decide +kernel
theorem F_Mo_push_14 : fetch m_Mo_push 14 = some (.ifCond .ne 7) := by decide +kernel
theorem F_Mo_push_17 : fetch m_Mo_push 17 = some (.iconst 1) := by decide +kernel
theorem F_Mo_push_18 : fetch m_Mo_push 18 = some (.goto 33) := by decide +kernel
theorem F_Mo_push_21 : fetch m_Mo_push 21 = some (.aload_n 0) := by decide +kernel
theorem F_Mo_push_22 : fetch m_Mo_push 22 = some (.iload_n 1) := by decide +kernel
theorem F_Mo_push_23 : fetch m_Mo_push 23 = some (.invokevirtual 350) := by decide +kernel
theorem F_Mo_push_26 : fetch m_Mo_push 26 = some (.ifCond .ne 20) := by decide +kernel
theorem F_Mo_push_29 : fetch m_Mo_push 29 = some (.iload_n 1) := by decide +kernel
theorem F_Mo_push_30 : fetch m_Mo_push 30 = some (.iconst 2) := by decide +kernel
theorem F_Mo_push_31 : fetch m_Mo_push 31 = some (.irem) := by decide +kernel
theorem F_Mo_push_32 : fetch m_Mo_push 32 = some (.iconst 1) := by decide +kernel
theorem F_Mo_push_33 : fetch m_Mo_push 33 = some (.if_icmp .ne 17) := by decide +kernel
theorem F_Mo_push_36 : fetch m_Mo_push 36 = some (.aload_n 0) := by decide +kernel
theorem F_Mo_push_37 : fetch m_Mo_push 37 = some (.iload_n 1) := by decide +kernel
theorem F_Mo_push_38 : fetch m_Mo_push 38 = some (.iconst 1) := by decide +kernel
theorem F_Mo_push_39 : fetch m_Mo_push 39 = some (.isub) := by decide +kernel
theorem F_Mo_push_40 : fetch m_Mo_push 40 = some (.invokevirtual 350) := by decide +kernel
theorem F_Mo_push_43 : fetch m_Mo_push 43 = some (.ifCond .ne 7) := by decide +kernel
theorem F_Mo_push_46 : fetch m_Mo_push 46 = some (.iconst 2) := by decide +kernel
theorem F_Mo_push_47 : fetch m_Mo_push 47 = some (.goto 4) := by decide +kernel
theorem F_Mo_push_50 : fetch m_Mo_push 50 = some (.iconst 0) := by decide +kernel
theorem F_Mo_push_51 : fetch m_Mo_push 51 = some (.putfield 178) := by decide +kernel
theorem F_Mo_push_54 : fetch m_Mo_push 54 = some (.aload_n 0) := by decide +kernel
theorem F_Mo_push_55 : fetch m_Mo_push 55 = some (.getfield 178) := by decide +kernel
theorem F_Mo_push_58 : fetch m_Mo_push 58 = some (.ifCond .le 4) := by decide +kernel
theorem F_Mo_push_61 : fetch m_Mo_push 61 = some (.return_) := by decide +kernel
theorem F_Mo_push_62 : fetch m_Mo_push 62 = some (.aload_n 0) := by decide +kernel
theorem F_Mo_push_63 : fetch m_Mo_push 63 = some (.getfield 108) := by decide +kernel
theorem F_Mo_push_66 : fetch m_Mo_push 66 = some (.aload_n 0) := by decide +kernel
theorem F_Mo_push_67 : fetch m_Mo_push 67 = some (.getfield 245) := by decide +kernel
theorem F_Mo_push_70 : fetch m_Mo_push 70 = some (.iload_n 1) := by decide +kernel
theorem F_Mo_push_71 : fetch m_Mo_push 71 = some (.iastore) := by decide +kernel
theorem F_Mo_push_72 : fetch m_Mo_push 72 = some (.aload_n 0) := by decide +kernel
theorem F_Mo_push_73 : fetch m_Mo_push 73 = some (.dup) := by decide +kernel
theorem F_Mo_push_74 : fetch m_Mo_push 74 = some (.getfield 245) := by decide +kernel
theorem F_Mo_push_77 : fetch m_Mo_push 77 = some (.iconst 1) := by decide +kernel
theorem F_Mo_push_78 : fetch m_Mo_push 78 = some (.iadd) := by decide +kernel
theorem F_Mo_push_79 : fetch m_Mo_push 79 = some (.putfield 245) := by decide +kernel
theorem F_Mo_push_82 : fetch m_Mo_push 82 = some (.return_) := by decide +kernel
theorem F_Mo_isInRow_0 : fetch m_Mo_isInRow 0 = some (.iconst 0) := by decide +kernel
theorem F_Mo_isInRow_1 : fetch m_Mo_isInRow 1 = some (.istore_n 2) := by decide +kernel
theorem F_Mo_isInRow_2 : fetch m_Mo_isInRow 2 = some (.iload_n 2) := by decide +kernel
theorem F_Mo_isInRow_3 : fetch m_Mo_isInRow 3 = some (.aload_n 0) := by decide +kernel
theorem F_Mo_isInRow_4 : fetch m_Mo_isInRow 4 = some (.getfield 245) := by decide +kernel
theorem F_Mo_isInRow_7 : fetch m_Mo_isInRow 7 = some (.if_icmp .ge 21) := by decide +kernel
theorem F_Mo_isInRow_10 : fetch m_Mo_isInRow 10 = some (.aload_n 0) := by decide +kernel
theorem F_Mo_isInRow_11 : fetch m_Mo_isInRow 11 = some (.getfield 108) := by decide +kernel
theorem F_Mo_isInRow_14 : fetch m_Mo_isInRow 14 = some (.iload_n 2) := by decide +kernel
theorem F_Mo_isInRow_15 : fetch m_Mo_isInRow 15 = some (.iaload) := by decide +kernel
theorem F_Mo_isInRow_16 : fetch m_Mo_isInRow 16 = some (.iload_n 1) := by decide +kernel
theorem F_Mo_isInRow_17 : fetch m_Mo_isInRow 17 = some (.if_icmp .ne 5) := by decide +kernel
theorem F_Mo_isInRow_20 : fetch m_Mo_isInRow 20 = some (.iconst 1) := by decide +kernel
theorem F_Mo_isInRow_21 : fetch m_Mo_isInRow 21 = some (.ireturn) := by decide +kernel
theorem F_Mo_isInRow_22 : fetch m_Mo_isInRow 22 = some (.iinc 2 1) := by decide +kernel
theorem F_Mo_isInRow_25 : fetch m_Mo_isInRow 25 = some (.goto (-23)) := by decide +kernel
theorem F_Mo_isInRow_28 : fetch m_Mo_isInRow 28 = some (.iconst 0) := by decide +kernel
theorem F_Mo_isInRow_29 : fetch m_Mo_isInRow 29 = some (.ireturn) := by decide +kernel
theorem F_Mo_pop_0 : fetch m_Mo_pop 0 = some (.aload_n 0) := by decide +kernel
theorem F_Mo_pop_1 : fetch m_Mo_pop 1 = some (.iconst 0) := by decide +kernel
theorem F_Mo_pop_2 : fetch m_Mo_pop 2 = some (.putfield 178) := by decide +kernel
theorem F_Mo_pop_5 : fetch m_Mo_pop 5 = some (.aload_n 0) := by decide +kernel
theorem F_Mo_pop_6 : fetch m_Mo_pop 6 = some (.getfield 245) := by decide +kernel
theorem F_Mo_pop_9 : fetch m_Mo_pop 9 = some (.ifCond .ne 5) := by decide +kernel
theorem F_Mo_pop_12 : fetch m_Mo_pop 12 = some (.iconst (-1)) := by decide +kernel
theorem F_Mo_pop_13 : fetch m_Mo_pop 13 = some (.ireturn) := by decide +kernel
theorem F_Mo_pop_14 : fetch m_Mo_pop 14 = some (.aload_n 0) := by decide +kernel
theorem F_Mo_pop_15 : fetch m_Mo_pop 15 = some (.dup) := by decide +kernel
theorem F_Mo_pop_16 : fetch m_Mo_pop 16 = some (.getfield 245) := by decide +kernel
theorem F_Mo_pop_19 : fetch m_Mo_pop 19 = some (.iconst 1) := by decide +kernel
theorem F_Mo_pop_20 : fetch m_Mo_pop 20 = some (.isub) := by decide +kernel
theorem F_Mo_pop_21 : fetch m_Mo_pop 21 = some (.putfield 245) := by decide +kernel
theorem F_Mo_pop_24 : fetch m_Mo_pop 24 = some (.aload_n 0) := by decide +kernel
theorem F_Mo_pop_25 : fetch m_Mo_pop 25 = some (.getfield 108) := by decide +kernel
theorem F_Mo_pop_28 : fetch m_Mo_pop 28 = some (.aload_n 0) := by decide +kernel
theorem F_Mo_pop_29 : fetch m_Mo_pop 29 = some (.getfield 245) := by decide +kernel
theorem F_Mo_pop_32 : fetch m_Mo_pop 32 = some (.iaload) := by decide +kernel
theorem F_Mo_pop_33 : fetch m_Mo_pop 33 = some (.ireturn) := by decide +kernel
theorem F_Mo_arrange_0 : fetch m_Mo_arrange 0 = some (.aload_n 0) := by decide +kernel
theorem F_Mo_arrange_1 : fetch m_Mo_arrange 1 = some (.aload_n 0) := by decide +kernel
theorem F_Mo_arrange_2 : fetch m_Mo_arrange 2 = some (.getfield 245) := by decide +kernel
theorem F_Mo_arrange_5 : fetch m_Mo_arrange 5 = some (.iconst 2) := by decide +kernel
theorem F_Mo_arrange_6 : fetch m_Mo_arrange 6 = some (.aload_n 0) := by decide +kernel
theorem F_Mo_arrange_7 : fetch m_Mo_arrange 7 = some (.getfield 242) := by decide +kernel
theorem F_Mo_arrange_10 : fetch m_Mo_arrange 10 = some (.imul) := by decide +kernel
theorem F_Mo_arrange_11 : fetch m_Mo_arrange 11 = some (.if_icmp .ge 7) := by decide +kernel
theorem F_Mo_arrange_14 : fetch m_Mo_arrange 14 = some (.iconst 1) := by decide +kernel
theorem F_Mo_arrange_15 : fetch m_Mo_arrange 15 = some (.goto 4) := by decide +kernel
theorem F_Mo_arrange_18 : fetch m_Mo_arrange 18 = some (.iconst 0) := by decide +kernel
theorem F_Mo_arrange_19 : fetch m_Mo_arrange 19 = some (.putfield 178) := by decide +kernel
theorem F_Mo_arrange_22 : fetch m_Mo_arrange 22 = some (.aload_n 0) := by decide +kernel
theorem F_Mo_arrange_23 : fetch m_Mo_arrange 23 = some (.getfield 178) := by decide +kernel
theorem F_Mo_arrange_26 : fetch m_Mo_arrange 26 = some (.ifCond .le 5) := by decide +kernel
theorem F_Mo_arrange_29 : fetch m_Mo_arrange 29 = some (.iconst 0) := by decide +kernel
theorem F_Mo_arrange_30 : fetch m_Mo_arrange 30 = some (.ireturn) := by decide +kernel
theorem F_Mo_arrange_31 : fetch m_Mo_arrange 31 = some (.aload_n 0) := by decide +kernel
theorem F_Mo_arrange_32 : fetch m_Mo_arrange 32 = some (.invokevirtual 327) := by decide +kernel
theorem F_Mo_arrange_35 : fetch m_Mo_arrange 35 = some (.aload_n 0) := by decide +kernel
theorem F_Mo_arrange_36 : fetch m_Mo_arrange 36 = some (.invokevirtual 385) := by decide +kernel
theorem F_Mo_arrange_39 : fetch m_Mo_arrange 39 = some (.istore_n 1) := by decide +kernel
theorem F_Mo_arrange_40 : fetch m_Mo_arrange 40 = some (.iload_n 1) := by decide +kernel
theorem F_Mo_arrange_41 : fetch m_Mo_arrange 41 = some (.ifCond .ne 7) := by decide +kernel
theorem F_Mo_arrange_44 : fetch m_Mo_arrange 44 = some (.aload_n 0) := by decide +kernel
theorem F_Mo_arrange_45 : fetch m_Mo_arrange 45 = some (.invokevirtual 388) := by decide +kernel
theorem F_Mo_arrange_48 : fetch m_Mo_arrange 48 = some (.aload_n 0) := by decide +kernel
theorem F_Mo_arrange_49 : fetch m_Mo_arrange 49 = some (.iload_n 1) := by decide +kernel
theorem F_Mo_arrange_50 : fetch m_Mo_arrange 50 = some (.invokevirtual 347) := by decide +kernel
theorem F_Mo_arrange_53 : fetch m_Mo_arrange 53 = some (.iload_n 1) := by decide +kernel
theorem F_Mo_arrange_54 : fetch m_Mo_arrange 54 = some (.ireturn) := by decide +kernel
theorem F_Mo_arranged_0 : fetch m_Mo_arranged 0 = some (.aload_n 0) := by decide +kernel
theorem F_Mo_arranged_1 : fetch m_Mo_arranged 1 = some (.invokevirtual 376) := by decide +kernel
theorem F_Mo_arranged_4 : fetch m_Mo_arranged 4 = some (.istore_n 1) := by decide +kernel
theorem F_Mo_arranged_5 : fetch m_Mo_arranged 5 = some (.iload_n 1) := by decide +kernel
theorem F_Mo_arranged_6 : fetch m_Mo_arranged 6 = some (.ifCond .le 5) := by decide +kernel
theorem F_Mo_arranged_9 : fetch m_Mo_arranged 9 = some (.iload_n 1) := by decide +kernel
theorem F_Mo_arranged_10 : fetch m_Mo_arranged 10 = some (.ireturn) := by decide +kernel
theorem F_Mo_arranged_11 : fetch m_Mo_arranged 11 = some (.aload_n 0) := by decide +kernel
theorem F_Mo_arranged_12 : fetch m_Mo_arranged 12 = some (.invokevirtual 379) := by decide +kernel
theorem F_Mo_arranged_15 : fetch m_Mo_arranged 15 = some (.ifCond .ne 6) := by decide +kernel
theorem F_Mo_arranged_18 : fetch m_Mo_arranged 18 = some (.bipush 8) := by decide +kernel
theorem F_Mo_arranged_20 : fetch m_Mo_arranged 20 = some (.ireturn) := by decide +kernel
theorem F_Mo_arranged_21 : fetch m_Mo_arranged 21 = some (.iconst 0) := by decide +kernel
theorem F_Mo_arranged_22 : fetch m_Mo_arranged 22 = some (.istore_n 2) := by decide +kernel
theorem F_Mo_arranged_23 : fetch m_Mo_arranged 23 = some (.iload_n 2) := by decide +kernel
theorem F_Mo_arranged_24 : fetch m_Mo_arranged 24 = some (.bipush 24) := by decide +kernel
theorem F_Mo_arranged_26 : fetch m_Mo_arranged 26 = some (.if_icmp .ge 16) := by decide +kernel
theorem F_Mo_arranged_29 : fetch m_Mo_arranged 29 = some (.aload_n 0) := by decide +kernel
theorem F_Mo_arranged_30 : fetch m_Mo_arranged 30 = some (.getfield 117) := by decide +kernel
theorem F_Mo_arranged_33 : fetch m_Mo_arranged 33 = some (.iload_n 2) := by decide +kernel
theorem F_Mo_arranged_34 : fetch m_Mo_arranged 34 = some (.lconst 0) := by decide +kernel
theorem F_Mo_arranged_35 : fetch m_Mo_arranged 35 = some (.lastore) := by decide +kernel
theorem F_Mo_arranged_36 : fetch m_Mo_arranged 36 = some (.iinc 2 1) := by decide +kernel
theorem F_Mo_arranged_39 : fetch m_Mo_arranged 39 = some (.goto (-16)) := by decide +kernel
theorem F_Mo_arranged_42 : fetch m_Mo_arranged 42 = some (.iconst 0) := by decide +kernel
theorem F_Mo_arranged_43 : fetch m_Mo_arranged 43 = some (.istore_n 2) := by decide +kernel
theorem F_Mo_arranged_44 : fetch m_Mo_arranged 44 = some (.iconst 1) := by decide +kernel
theorem F_Mo_arranged_45 : fetch m_Mo_arranged 45 = some (.istore_n 3) := by decide +kernel
theorem F_Mo_arranged_46 : fetch m_Mo_arranged 46 = some (.iload_n 3) := by decide +kernel
theorem F_Mo_arranged_47 : fetch m_Mo_arranged 47 = some (.ifCond .eq 22) := by decide +kernel
theorem F_Mo_arranged_50 : fetch m_Mo_arranged 50 = some (.iload_n 2) := by decide +kernel
theorem F_Mo_arranged_51 : fetch m_Mo_arranged 51 = some (.aload_n 0) := by decide +kernel
theorem F_Mo_arranged_52 : fetch m_Mo_arranged 52 = some (.getfield 283) := by decide +kernel
theorem F_Mo_arranged_55 : fetch m_Mo_arranged 55 = some (.if_icmp .gt 14) := by decide +kernel
theorem F_Mo_arranged_58 : fetch m_Mo_arranged 58 = some (.aload_n 0) := by decide +kernel
theorem F_Mo_arranged_59 : fetch m_Mo_arranged 59 = some (.invokevirtual 382) := by decide +kernel
theorem F_Mo_arranged_62 : fetch m_Mo_arranged 62 = some (.istore_n 3) := by decide +kernel
theorem F_Mo_arranged_63 : fetch m_Mo_arranged 63 = some (.iinc 2 1) := by decide +kernel
theorem F_Mo_arranged_66 : fetch m_Mo_arranged 66 = some (.goto (-20)) := by decide +kernel
theorem F_Mo_arranged_69 : fetch m_Mo_arranged 69 = some (.iload_n 3) := by decide +kernel
theorem F_Mo_arranged_70 : fetch m_Mo_arranged 70 = some (.ifCond .eq 8) := by decide +kernel
theorem F_Mo_arranged_73 : fetch m_Mo_arranged 73 = some (.bipush 7) := by decide +kernel
theorem F_Mo_arranged_75 : fetch m_Mo_arranged 75 = some (.goto 4) := by decide +kernel
theorem F_Mo_arranged_78 : fetch m_Mo_arranged 78 = some (.iconst 0) := by decide +kernel
theorem F_Mo_arranged_79 : fetch m_Mo_arranged 79 = some (.ireturn) := by decide +kernel
theorem F_Mo_walk_0 : fetch m_Mo_walk 0 = some (.aload_n 0) := by decide +kernel
theorem F_Mo_walk_1 : fetch m_Mo_walk 1 = some (.invokevirtual 333) := by decide +kernel
theorem F_Mo_walk_4 : fetch m_Mo_walk 4 = some (.iconst 0) := by decide +kernel
theorem F_Mo_walk_5 : fetch m_Mo_walk 5 = some (.istore_n 1) := by decide +kernel
theorem F_Mo_walk_6 : fetch m_Mo_walk 6 = some (.iload_n 1) := by decide +kernel
theorem F_Mo_walk_7 : fetch m_Mo_walk 7 = some (.bipush 24) := by decide +kernel
theorem F_Mo_walk_9 : fetch m_Mo_walk 9 = some (.if_icmp .ge 16) := by decide +kernel
theorem F_Mo_walk_12 : fetch m_Mo_walk 12 = some (.aload_n 0) := by decide +kernel
theorem F_Mo_walk_13 : fetch m_Mo_walk 13 = some (.getfield 157) := by decide +kernel
theorem F_Mo_walk_16 : fetch m_Mo_walk 16 = some (.iload_n 1) := by decide +kernel
theorem F_Mo_walk_17 : fetch m_Mo_walk 17 = some (.iconst 0) := by decide +kernel
theorem F_Mo_walk_18 : fetch m_Mo_walk 18 = some (.bastore) := by decide +kernel
theorem F_Mo_walk_19 : fetch m_Mo_walk 19 = some (.iinc 1 1) := by decide +kernel
theorem F_Mo_walk_22 : fetch m_Mo_walk 22 = some (.goto (-16)) := by decide +kernel
theorem F_Mo_walk_25 : fetch m_Mo_walk 25 = some (.iconst 0) := by decide +kernel
theorem F_Mo_walk_26 : fetch m_Mo_walk 26 = some (.istore_n 1) := by decide +kernel
theorem F_Mo_walk_27 : fetch m_Mo_walk 27 = some (.iload_n 1) := by decide +kernel
theorem F_Mo_walk_28 : fetch m_Mo_walk 28 = some (.aload_n 0) := by decide +kernel
theorem F_Mo_walk_29 : fetch m_Mo_walk 29 = some (.getfield 283) := by decide +kernel
theorem F_Mo_walk_32 : fetch m_Mo_walk 32 = some (.if_icmp .ge 149) := by decide +kernel
theorem F_Mo_walk_35 : fetch m_Mo_walk 35 = some (.aload_n 0) := by decide +kernel
theorem F_Mo_walk_36 : fetch m_Mo_walk 36 = some (.aload_n 0) := by decide +kernel
theorem F_Mo_walk_37 : fetch m_Mo_walk 37 = some (.getfield 114) := by decide +kernel
theorem F_Mo_walk_40 : fetch m_Mo_walk 40 = some (.iload_n 1) := by decide +kernel
theorem F_Mo_walk_41 : fetch m_Mo_walk 41 = some (.iaload) := by decide +kernel
theorem F_Mo_walk_42 : fetch m_Mo_walk 42 = some (.putfield 305) := by decide +kernel
theorem F_Mo_walk_45 : fetch m_Mo_walk 45 = some (.aload_n 0) := by decide +kernel
theorem F_Mo_walk_46 : fetch m_Mo_walk 46 = some (.getfield 305) := by decide +kernel
theorem F_Mo_walk_49 : fetch m_Mo_walk 49 = some (.iconst 2) := by decide +kernel
theorem F_Mo_walk_50 : fetch m_Mo_walk 50 = some (.irem) := by decide +kernel
theorem F_Mo_walk_51 : fetch m_Mo_walk 51 = some (.ifCond .ne 13) := by decide +kernel
theorem F_Mo_walk_54 : fetch m_Mo_walk 54 = some (.aload_n 0) := by decide +kernel
theorem F_Mo_walk_55 : fetch m_Mo_walk 55 = some (.aload_n 0) := by decide +kernel
theorem F_Mo_walk_56 : fetch m_Mo_walk 56 = some (.getfield 305) := by decide +kernel
theorem F_Mo_walk_59 : fetch m_Mo_walk 59 = some (.iconst 2) := by decide +kernel
theorem F_Mo_walk_60 : fetch m_Mo_walk 60 = some (.idiv) := by decide +kernel
theorem F_Mo_walk_61 : fetch m_Mo_walk 61 = some (.invokevirtual 353) := by decide +kernel
theorem F_Mo_walk_64 : fetch m_Mo_walk 64 = some (.aload_n 0) := by decide +kernel
theorem F_Mo_walk_65 : fetch m_Mo_walk 65 = some (.aload_n 0) := by decide +kernel
theorem F_Mo_walk_66 : fetch m_Mo_walk 66 = some (.getfield 305) := by decide +kernel
theorem F_Mo_walk_69 : fetch m_Mo_walk 69 = some (.iconst 2) := by decide +kernel
theorem F_Mo_walk_70 : fetch m_Mo_walk 70 = some (.idiv) := by decide +kernel
theorem F_Mo_walk_71 : fetch m_Mo_walk 71 = some (.aload_n 0) := by decide +kernel
theorem F_Mo_walk_72 : fetch m_Mo_walk 72 = some (.getfield 305) := by decide +kernel
theorem F_Mo_walk_75 : fetch m_Mo_walk 75 = some (.invokestatic 248) := by decide +kernel
theorem F_Mo_walk_78 : fetch m_Mo_walk 78 = some (.invokevirtual 299) := by decide +kernel
theorem F_Mo_walk_81 : fetch m_Mo_walk 81 = some (.ifCond .ne 5) := by decide +kernel
theorem F_Mo_walk_84 : fetch m_Mo_walk 84 = some (.iconst 2) := by decide +kernel
theorem F_Mo_walk_85 : fetch m_Mo_walk 85 = some (.ireturn) := by decide +kernel
theorem F_Mo_walk_86 : fetch m_Mo_walk 86 = some (.aload_n 0) := by decide +kernel
theorem F_Mo_walk_87 : fetch m_Mo_walk 87 = some (.invokevirtual 311) := by decide +kernel
theorem F_Mo_walk_90 : fetch m_Mo_walk 90 = some (.aload_n 0) := by decide +kernel
theorem F_Mo_walk_91 : fetch m_Mo_walk 91 = some (.aload_n 0) := by decide +kernel
theorem F_Mo_walk_92 : fetch m_Mo_walk 92 = some (.getfield 305) := by decide +kernel
theorem F_Mo_walk_95 : fetch m_Mo_walk 95 = some (.invokevirtual 314) := by decide +kernel
theorem F_Mo_walk_98 : fetch m_Mo_walk 98 = some (.ifCond .ne 9) := by decide +kernel
theorem F_Mo_walk_101 : fetch m_Mo_walk 101 = some (.aload_n 0) := by decide +kernel
theorem F_Mo_walk_102 : fetch m_Mo_walk 102 = some (.invokevirtual 317) := by decide +kernel
theorem F_Mo_walk_105 : fetch m_Mo_walk 105 = some (.iconst 4) := by decide +kernel
theorem F_Mo_walk_106 : fetch m_Mo_walk 106 = some (.ireturn) := by decide +kernel
theorem F_Mo_walk_107 : fetch m_Mo_walk 107 = some (.aload_n 0) := by decide +kernel
theorem F_Mo_walk_108 : fetch m_Mo_walk 108 = some (.getfield 157) := by decide +kernel
theorem F_Mo_walk_111 : fetch m_Mo_walk 111 = some (.aload_n 0) := by decide +kernel
theorem F_Mo_walk_112 : fetch m_Mo_walk 112 = some (.getfield 305) := by decide +kernel
theorem F_Mo_walk_115 : fetch m_Mo_walk 115 = some (.iconst 1) := by decide +kernel
theorem F_Mo_walk_116 : fetch m_Mo_walk 116 = some (.bastore) := by decide +kernel
theorem F_Mo_walk_117 : fetch m_Mo_walk 117 = some (.iconst 0) := by decide +kernel
theorem F_Mo_walk_118 : fetch m_Mo_walk 118 = some (.istore_n 2) := by decide +kernel
theorem F_Mo_walk_119 : fetch m_Mo_walk 119 = some (.iload_n 2) := by decide +kernel
theorem F_Mo_walk_120 : fetch m_Mo_walk 120 = some (.aload_n 0) := by decide +kernel
theorem F_Mo_walk_121 : fetch m_Mo_walk 121 = some (.getfield 280) := by decide +kernel
theorem F_Mo_walk_124 : fetch m_Mo_walk 124 = some (.if_icmp .ge 51) := by decide +kernel
theorem F_Mo_walk_127 : fetch m_Mo_walk 127 = some (.aload_n 0) := by decide +kernel
theorem F_Mo_walk_128 : fetch m_Mo_walk 128 = some (.iconst 2) := by decide +kernel
theorem F_Mo_walk_129 : fetch m_Mo_walk 129 = some (.iload_n 2) := by decide +kernel
theorem F_Mo_walk_130 : fetch m_Mo_walk 130 = some (.imul) := by decide +kernel
theorem F_Mo_walk_131 : fetch m_Mo_walk 131 = some (.putfield 305) := by decide +kernel
theorem F_Mo_walk_134 : fetch m_Mo_walk 134 = some (.aload_n 0) := by decide +kernel
theorem F_Mo_walk_135 : fetch m_Mo_walk 135 = some (.getfield 157) := by decide +kernel
theorem F_Mo_walk_138 : fetch m_Mo_walk 138 = some (.iconst 2) := by decide +kernel
theorem F_Mo_walk_139 : fetch m_Mo_walk 139 = some (.iload_n 2) := by decide +kernel
theorem F_Mo_walk_140 : fetch m_Mo_walk 140 = some (.imul) := by decide +kernel
theorem F_Mo_walk_141 : fetch m_Mo_walk 141 = some (.baload) := by decide +kernel
theorem F_Mo_walk_142 : fetch m_Mo_walk 142 = some (.ifCond .eq 27) := by decide +kernel
theorem F_Mo_walk_145 : fetch m_Mo_walk 145 = some (.aload_n 0) := by decide +kernel
theorem F_Mo_walk_146 : fetch m_Mo_walk 146 = some (.getfield 157) := by decide +kernel
theorem F_Mo_walk_149 : fetch m_Mo_walk 149 = some (.iconst 2) := by decide +kernel
theorem F_Mo_walk_150 : fetch m_Mo_walk 150 = some (.iload_n 2) := by decide +kernel
theorem F_Mo_walk_151 : fetch m_Mo_walk 151 = some (.imul) := by decide +kernel
theorem F_Mo_walk_152 : fetch m_Mo_walk 152 = some (.iconst 1) := by decide +kernel
theorem F_Mo_walk_153 : fetch m_Mo_walk 153 = some (.iadd) := by decide +kernel
theorem F_Mo_walk_154 : fetch m_Mo_walk 154 = some (.baload) := by decide +kernel
theorem F_Mo_walk_155 : fetch m_Mo_walk 155 = some (.ifCond .ne 14) := by decide +kernel
theorem F_Mo_walk_158 : fetch m_Mo_walk 158 = some (.aload_n 0) := by decide +kernel
theorem F_Mo_walk_159 : fetch m_Mo_walk 159 = some (.iload_n 2) := by decide +kernel
theorem F_Mo_walk_160 : fetch m_Mo_walk 160 = some (.iconst 1) := by decide +kernel
theorem F_Mo_walk_161 : fetch m_Mo_walk 161 = some (.invokevirtual 299) := by decide +kernel
theorem F_Mo_walk_164 : fetch m_Mo_walk 164 = some (.ifCond .ne 5) := by decide +kernel
theorem F_Mo_walk_167 : fetch m_Mo_walk 167 = some (.iconst 5) := by decide +kernel
theorem F_Mo_walk_168 : fetch m_Mo_walk 168 = some (.ireturn) := by decide +kernel
theorem F_Mo_walk_169 : fetch m_Mo_walk 169 = some (.iinc 2 1) := by decide +kernel
theorem F_Mo_walk_172 : fetch m_Mo_walk 172 = some (.goto (-53)) := by decide +kernel
theorem F_Mo_walk_175 : fetch m_Mo_walk 175 = some (.iinc 1 1) := by decide +kernel
theorem F_Mo_walk_178 : fetch m_Mo_walk 178 = some (.goto (-151)) := by decide +kernel
theorem F_Mo_walk_181 : fetch m_Mo_walk 181 = some (.aload_n 0) := by decide +kernel
theorem F_Mo_walk_182 : fetch m_Mo_walk 182 = some (.invokevirtual 344) := by decide +kernel
theorem F_Mo_walk_185 : fetch m_Mo_walk 185 = some (.ifCond .eq 7) := by decide +kernel
theorem F_Mo_walk_188 : fetch m_Mo_walk 188 = some (.iconst 0) := by decide +kernel
theorem F_Mo_walk_189 : fetch m_Mo_walk 189 = some (.goto 5) := by decide +kernel
theorem F_Mo_walk_192 : fetch m_Mo_walk 192 = some (.bipush 6) := by decide +kernel
theorem F_Mo_walk_194 : fetch m_Mo_walk 194 = some (.ireturn) := by decide +kernel
theorem F_Mo_bound_0 : fetch m_Mo_bound 0 = some (.aload_n 0) := by decide +kernel
theorem F_Mo_bound_1 : fetch m_Mo_bound 1 = some (.iload_n 1) := by decide +kernel
theorem F_Mo_bound_2 : fetch m_Mo_bound 2 = some (.iconst 0) := by decide +kernel
theorem F_Mo_bound_3 : fetch m_Mo_bound 3 = some (.invokevirtual 293) := by decide +kernel
theorem F_Mo_bound_6 : fetch m_Mo_bound 6 = some (.ifCond .eq 29) := by decide +kernel
theorem F_Mo_bound_9 : fetch m_Mo_bound 9 = some (.aload_n 0) := by decide +kernel
theorem F_Mo_bound_10 : fetch m_Mo_bound 10 = some (.getfield 189) := by decide +kernel
theorem F_Mo_bound_13 : fetch m_Mo_bound 13 = some (.aload_n 0) := by decide +kernel
theorem F_Mo_bound_14 : fetch m_Mo_bound 14 = some (.getfield 192) := by decide +kernel
theorem F_Mo_bound_17 : fetch m_Mo_bound 17 = some (.aload_n 0) := by decide +kernel
theorem F_Mo_bound_18 : fetch m_Mo_bound 18 = some (.getfield 16) := by decide +kernel
theorem F_Mo_bound_21 : fetch m_Mo_bound 21 = some (.aload_n 0) := by decide +kernel
theorem F_Mo_bound_22 : fetch m_Mo_bound 22 = some (.getfield 21) := by decide +kernel
theorem F_Mo_bound_25 : fetch m_Mo_bound 25 = some (.invokestatic 264) := by decide +kernel
theorem F_Mo_bound_28 : fetch m_Mo_bound 28 = some (.ifCond .le 7) := by decide +kernel
theorem F_Mo_bound_31 : fetch m_Mo_bound 31 = some (.iconst 1) := by decide +kernel
theorem F_Mo_bound_32 : fetch m_Mo_bound 32 = some (.goto 4) := by decide +kernel
theorem F_Mo_bound_35 : fetch m_Mo_bound 35 = some (.iconst 0) := by decide +kernel
theorem F_Mo_bound_36 : fetch m_Mo_bound 36 = some (.istore_n 2) := by decide +kernel
theorem F_Mo_bound_37 : fetch m_Mo_bound 37 = some (.aload_n 0) := by decide +kernel
theorem F_Mo_bound_38 : fetch m_Mo_bound 38 = some (.getfield 163) := by decide +kernel
theorem F_Mo_bound_41 : fetch m_Mo_bound 41 = some (.iload_n 1) := by decide +kernel
theorem F_Mo_bound_42 : fetch m_Mo_bound 42 = some (.iload_n 2) := by decide +kernel
theorem F_Mo_bound_43 : fetch m_Mo_bound 43 = some (.ifCond .eq 10) := by decide +kernel
theorem F_Mo_bound_46 : fetch m_Mo_bound 46 = some (.aload_n 0) := by decide +kernel
theorem F_Mo_bound_47 : fetch m_Mo_bound 47 = some (.getfield 189) := by decide +kernel
theorem F_Mo_bound_50 : fetch m_Mo_bound 50 = some (.goto 7) := by decide +kernel
theorem F_Mo_bound_53 : fetch m_Mo_bound 53 = some (.aload_n 0) := by decide +kernel
theorem F_Mo_bound_54 : fetch m_Mo_bound 54 = some (.getfield 16) := by decide +kernel
theorem F_Mo_bound_57 : fetch m_Mo_bound 57 = some (.lastore) := by decide +kernel
theorem F_Mo_bound_58 : fetch m_Mo_bound 58 = some (.aload_n 0) := by decide +kernel
theorem F_Mo_bound_59 : fetch m_Mo_bound 59 = some (.getfield 166) := by decide +kernel
theorem F_Mo_bound_62 : fetch m_Mo_bound 62 = some (.iload_n 1) := by decide +kernel
theorem F_Mo_bound_63 : fetch m_Mo_bound 63 = some (.iload_n 2) := by decide +kernel
theorem F_Mo_bound_64 : fetch m_Mo_bound 64 = some (.ifCond .eq 10) := by decide +kernel
theorem F_Mo_bound_67 : fetch m_Mo_bound 67 = some (.aload_n 0) := by decide +kernel
theorem F_Mo_bound_68 : fetch m_Mo_bound 68 = some (.getfield 192) := by decide +kernel
theorem F_Mo_bound_71 : fetch m_Mo_bound 71 = some (.goto 7) := by decide +kernel
theorem F_Mo_bound_74 : fetch m_Mo_bound 74 = some (.aload_n 0) := by decide +kernel
theorem F_Mo_bound_75 : fetch m_Mo_bound 75 = some (.getfield 21) := by decide +kernel
theorem F_Mo_bound_78 : fetch m_Mo_bound 78 = some (.lastore) := by decide +kernel
theorem F_Mo_bound_79 : fetch m_Mo_bound 79 = some (.aload_n 0) := by decide +kernel
theorem F_Mo_bound_80 : fetch m_Mo_bound 80 = some (.iload_n 1) := by decide +kernel
theorem F_Mo_bound_81 : fetch m_Mo_bound 81 = some (.iconst 1) := by decide +kernel
theorem F_Mo_bound_82 : fetch m_Mo_bound 82 = some (.invokevirtual 293) := by decide +kernel
theorem F_Mo_bound_85 : fetch m_Mo_bound 85 = some (.istore_n 2) := by decide +kernel
theorem F_Mo_bound_86 : fetch m_Mo_bound 86 = some (.aload_n 0) := by decide +kernel
theorem F_Mo_bound_87 : fetch m_Mo_bound 87 = some (.getfield 169) := by decide +kernel
theorem F_Mo_bound_90 : fetch m_Mo_bound 90 = some (.iload_n 1) := by decide +kernel
theorem F_Mo_bound_91 : fetch m_Mo_bound 91 = some (.aload_n 0) := by decide +kernel
theorem F_Mo_bound_92 : fetch m_Mo_bound 92 = some (.getfield 189) := by decide +kernel
theorem F_Mo_bound_95 : fetch m_Mo_bound 95 = some (.lastore) := by decide +kernel
theorem F_Mo_bound_96 : fetch m_Mo_bound 96 = some (.aload_n 0) := by decide +kernel
theorem F_Mo_bound_97 : fetch m_Mo_bound 97 = some (.getfield 172) := by decide +kernel
theorem F_Mo_bound_100 : fetch m_Mo_bound 100 = some (.iload_n 1) := by decide +kernel
theorem F_Mo_bound_101 : fetch m_Mo_bound 101 = some (.iload_n 2) := by decide +kernel
theorem F_Mo_bound_102 : fetch m_Mo_bound 102 = some (.ifCond .eq 10) := by decide +kernel
theorem F_Mo_bound_105 : fetch m_Mo_bound 105 = some (.aload_n 0) := by decide +kernel
theorem F_Mo_bound_106 : fetch m_Mo_bound 106 = some (.getfield 192) := by decide +kernel
theorem F_Mo_bound_109 : fetch m_Mo_bound 109 = some (.goto 4) := by decide +kernel
theorem F_Mo_bound_112 : fetch m_Mo_bound 112 = some (.lconst 0) := by decide +kernel
theorem F_Mo_bound_113 : fetch m_Mo_bound 113 = some (.lastore) := by decide +kernel
theorem F_Mo_bound_114 : fetch m_Mo_bound 114 = some (.return_) := by decide +kernel
theorem F_Mo_hasUnit_0 : fetch m_Mo_hasUnit 0 = some (.aload_n 0) := by decide +kernel
theorem F_Mo_hasUnit_1 : fetch m_Mo_hasUnit 1 = some (.lconst 1) := by decide +kernel
theorem F_Mo_hasUnit_2 : fetch m_Mo_hasUnit 2 = some (.putfield 358) := by decide +kernel
theorem F_Mo_hasUnit_5 : fetch m_Mo_hasUnit 5 = some (.aload_n 0) := by decide +kernel
theorem F_Mo_hasUnit_6 : fetch m_Mo_hasUnit 6 = some (.aload_n 0) := by decide +kernel
theorem F_Mo_hasUnit_7 : fetch m_Mo_hasUnit 7 = some (.getfield 16) := by decide +kernel
theorem F_Mo_hasUnit_10 : fetch m_Mo_hasUnit 10 = some (.aload_n 0) := by decide +kernel
theorem F_Mo_hasUnit_11 : fetch m_Mo_hasUnit 11 = some (.getfield 21) := by decide +kernel
theorem F_Mo_hasUnit_14 : fetch m_Mo_hasUnit 14 = some (.invokevirtual 363) := by decide +kernel
theorem F_Mo_hasUnit_17 : fetch m_Mo_hasUnit 17 = some (.istore_n 1) := by decide +kernel
theorem F_Mo_hasUnit_18 : fetch m_Mo_hasUnit 18 = some (.iconst 0) := by decide +kernel
theorem F_Mo_hasUnit_19 : fetch m_Mo_hasUnit 19 = some (.istore_n 2) := by decide +kernel
theorem F_Mo_hasUnit_20 : fetch m_Mo_hasUnit 20 = some (.iload_n 2) := by decide +kernel
theorem F_Mo_hasUnit_21 : fetch m_Mo_hasUnit 21 = some (.aload_n 0) := by decide +kernel
theorem F_Mo_hasUnit_22 : fetch m_Mo_hasUnit 22 = some (.getfield 280) := by decide +kernel
theorem F_Mo_hasUnit_25 : fetch m_Mo_hasUnit 25 = some (.if_icmp .ge 68) := by decide +kernel
theorem F_Mo_hasUnit_28 : fetch m_Mo_hasUnit 28 = some (.iload_n 1) := by decide +kernel
theorem F_Mo_hasUnit_29 : fetch m_Mo_hasUnit 29 = some (.ifCond .eq 64) := by decide +kernel
theorem F_Mo_hasUnit_32 : fetch m_Mo_hasUnit 32 = some (.aload_n 0) := by decide +kernel
theorem F_Mo_hasUnit_33 : fetch m_Mo_hasUnit 33 = some (.aload_n 0) := by decide +kernel
theorem F_Mo_hasUnit_34 : fetch m_Mo_hasUnit 34 = some (.getfield 163) := by decide +kernel
theorem F_Mo_hasUnit_37 : fetch m_Mo_hasUnit 37 = some (.iload_n 2) := by decide +kernel
theorem F_Mo_hasUnit_38 : fetch m_Mo_hasUnit 38 = some (.laload) := by decide +kernel
theorem F_Mo_hasUnit_39 : fetch m_Mo_hasUnit 39 = some (.aload_n 0) := by decide +kernel
theorem F_Mo_hasUnit_40 : fetch m_Mo_hasUnit 40 = some (.getfield 166) := by decide +kernel
theorem F_Mo_hasUnit_43 : fetch m_Mo_hasUnit 43 = some (.iload_n 2) := by decide +kernel
theorem F_Mo_hasUnit_44 : fetch m_Mo_hasUnit 44 = some (.laload) := by decide +kernel
theorem F_Mo_hasUnit_45 : fetch m_Mo_hasUnit 45 = some (.invokevirtual 363) := by decide +kernel
theorem F_Mo_hasUnit_48 : fetch m_Mo_hasUnit 48 = some (.ifCond .eq 37) := by decide +kernel
theorem F_Mo_hasUnit_51 : fetch m_Mo_hasUnit 51 = some (.aload_n 0) := by decide +kernel
theorem F_Mo_hasUnit_52 : fetch m_Mo_hasUnit 52 = some (.getfield 172) := by decide +kernel
theorem F_Mo_hasUnit_55 : fetch m_Mo_hasUnit 55 = some (.iload_n 2) := by decide +kernel
theorem F_Mo_hasUnit_56 : fetch m_Mo_hasUnit 56 = some (.laload) := by decide +kernel
theorem F_Mo_hasUnit_57 : fetch m_Mo_hasUnit 57 = some (.lconst 0) := by decide +kernel
theorem F_Mo_hasUnit_58 : fetch m_Mo_hasUnit 58 = some (.lcmp) := by decide +kernel
theorem F_Mo_hasUnit_59 : fetch m_Mo_hasUnit 59 = some (.ifCond .eq 22) := by decide +kernel
theorem F_Mo_hasUnit_62 : fetch m_Mo_hasUnit 62 = some (.aload_n 0) := by decide +kernel
theorem F_Mo_hasUnit_63 : fetch m_Mo_hasUnit 63 = some (.aload_n 0) := by decide +kernel
theorem F_Mo_hasUnit_64 : fetch m_Mo_hasUnit 64 = some (.getfield 169) := by decide +kernel
theorem F_Mo_hasUnit_67 : fetch m_Mo_hasUnit 67 = some (.iload_n 2) := by decide +kernel
theorem F_Mo_hasUnit_68 : fetch m_Mo_hasUnit 68 = some (.laload) := by decide +kernel
theorem F_Mo_hasUnit_69 : fetch m_Mo_hasUnit 69 = some (.aload_n 0) := by decide +kernel
theorem F_Mo_hasUnit_70 : fetch m_Mo_hasUnit 70 = some (.getfield 172) := by decide +kernel
theorem F_Mo_hasUnit_73 : fetch m_Mo_hasUnit 73 = some (.iload_n 2) := by decide +kernel
theorem F_Mo_hasUnit_74 : fetch m_Mo_hasUnit 74 = some (.laload) := by decide +kernel
theorem F_Mo_hasUnit_75 : fetch m_Mo_hasUnit 75 = some (.invokevirtual 363) := by decide +kernel
theorem F_Mo_hasUnit_78 : fetch m_Mo_hasUnit 78 = some (.ifCond .eq 7) := by decide +kernel
theorem F_Mo_hasUnit_81 : fetch m_Mo_hasUnit 81 = some (.iconst 1) := by decide +kernel
theorem F_Mo_hasUnit_82 : fetch m_Mo_hasUnit 82 = some (.goto 4) := by decide +kernel
theorem F_Mo_hasUnit_85 : fetch m_Mo_hasUnit 85 = some (.iconst 0) := by decide +kernel
theorem F_Mo_hasUnit_86 : fetch m_Mo_hasUnit 86 = some (.istore_n 1) := by decide +kernel
theorem F_Mo_hasUnit_87 : fetch m_Mo_hasUnit 87 = some (.iinc 2 1) := by decide +kernel
theorem F_Mo_hasUnit_90 : fetch m_Mo_hasUnit 90 = some (.goto (-70)) := by decide +kernel
theorem F_Mo_hasUnit_93 : fetch m_Mo_hasUnit 93 = some (.iload_n 1) := by decide +kernel
theorem F_Mo_hasUnit_94 : fetch m_Mo_hasUnit 94 = some (.ireturn) := by decide +kernel
theorem F_Mo_joins_0 : fetch m_Mo_joins 0 = some (.lload_n 1) := by decide +kernel
theorem F_Mo_joins_1 : fetch m_Mo_joins 1 = some (.lload_n 3) := by decide +kernel
theorem F_Mo_joins_2 : fetch m_Mo_joins 2 = some (.ldc2_w 356) := by decide +kernel
theorem F_Mo_joins_5 : fetch m_Mo_joins 5 = some (.lconst 1) := by decide +kernel
theorem F_Mo_joins_6 : fetch m_Mo_joins 6 = some (.invokestatic 264) := by decide +kernel
theorem F_Mo_joins_9 : fetch m_Mo_joins 9 = some (.ifCond .le 5) := by decide +kernel
theorem F_Mo_joins_12 : fetch m_Mo_joins 12 = some (.iconst 0) := by decide +kernel
theorem F_Mo_joins_13 : fetch m_Mo_joins 13 = some (.ireturn) := by decide +kernel
theorem F_Mo_joins_14 : fetch m_Mo_joins 14 = some (.aload_n 0) := by decide +kernel
theorem F_Mo_joins_15 : fetch m_Mo_joins 15 = some (.aload_n 0) := by decide +kernel
theorem F_Mo_joins_16 : fetch m_Mo_joins 16 = some (.getfield 358) := by decide +kernel
theorem F_Mo_joins_19 : fetch m_Mo_joins 19 = some (.aload_n 0) := by decide +kernel
theorem F_Mo_joins_20 : fetch m_Mo_joins 20 = some (.getfield 358) := by decide +kernel
theorem F_Mo_joins_23 : fetch m_Mo_joins 23 = some (.lload_n 3) := by decide +kernel
theorem F_Mo_joins_24 : fetch m_Mo_joins 24 = some (.invokestatic 185) := by decide +kernel
theorem F_Mo_joins_27 : fetch m_Mo_joins 27 = some (.ldiv) := by decide +kernel
theorem F_Mo_joins_28 : fetch m_Mo_joins 28 = some (.lload_n 3) := by decide +kernel
theorem F_Mo_joins_29 : fetch m_Mo_joins 29 = some (.lmul) := by decide +kernel
theorem F_Mo_joins_30 : fetch m_Mo_joins 30 = some (.putfield 358) := by decide +kernel
theorem F_Mo_joins_33 : fetch m_Mo_joins 33 = some (.aload_n 0) := by decide +kernel
theorem F_Mo_joins_34 : fetch m_Mo_joins 34 = some (.getfield 358) := by decide +kernel
theorem F_Mo_joins_37 : fetch m_Mo_joins 37 = some (.ldc2_w 361) := by decide +kernel
theorem F_Mo_joins_40 : fetch m_Mo_joins 40 = some (.lcmp) := by decide +kernel
theorem F_Mo_joins_41 : fetch m_Mo_joins 41 = some (.ifCond .gt 7) := by decide +kernel
theorem F_Mo_joins_44 : fetch m_Mo_joins 44 = some (.iconst 1) := by decide +kernel
theorem F_Mo_joins_45 : fetch m_Mo_joins 45 = some (.goto 4) := by decide +kernel
theorem F_Mo_joins_48 : fetch m_Mo_joins 48 = some (.iconst 0) := by decide +kernel
theorem F_Mo_joins_49 : fetch m_Mo_joins 49 = some (.ireturn) := by decide +kernel
theorem F_Mo_liftAll_0 : fetch m_Mo_liftAll 0 = some (.iconst 0) := by decide +kernel
theorem F_Mo_liftAll_1 : fetch m_Mo_liftAll 1 = some (.istore_n 1) := by decide +kernel
theorem F_Mo_liftAll_2 : fetch m_Mo_liftAll 2 = some (.iconst 0) := by decide +kernel
theorem F_Mo_liftAll_3 : fetch m_Mo_liftAll 3 = some (.istore_n 2) := by decide +kernel
theorem F_Mo_liftAll_4 : fetch m_Mo_liftAll 4 = some (.iload_n 2) := by decide +kernel
theorem F_Mo_liftAll_5 : fetch m_Mo_liftAll 5 = some (.aload_n 0) := by decide +kernel
theorem F_Mo_liftAll_6 : fetch m_Mo_liftAll 6 = some (.getfield 283) := by decide +kernel
theorem F_Mo_liftAll_9 : fetch m_Mo_liftAll 9 = some (.if_icmp .ge 87) := by decide +kernel
theorem F_Mo_liftAll_12 : fetch m_Mo_liftAll 12 = some (.iload_n 2) := by decide +kernel
theorem F_Mo_liftAll_13 : fetch m_Mo_liftAll 13 = some (.iconst 1) := by decide +kernel
theorem F_Mo_liftAll_14 : fetch m_Mo_liftAll 14 = some (.iadd) := by decide +kernel
theorem F_Mo_liftAll_15 : fetch m_Mo_liftAll 15 = some (.istore_n 3) := by decide +kernel
theorem F_Mo_liftAll_16 : fetch m_Mo_liftAll 16 = some (.iload_n 3) := by decide +kernel
theorem F_Mo_liftAll_17 : fetch m_Mo_liftAll 17 = some (.aload_n 0) := by decide +kernel
theorem F_Mo_liftAll_18 : fetch m_Mo_liftAll 18 = some (.getfield 283) := by decide +kernel
theorem F_Mo_liftAll_21 : fetch m_Mo_liftAll 21 = some (.if_icmp .ge 69) := by decide +kernel
theorem F_Mo_liftAll_24 : fetch m_Mo_liftAll 24 = some (.aload_n 0) := by decide +kernel
theorem F_Mo_liftAll_25 : fetch m_Mo_liftAll 25 = some (.getfield 114) := by decide +kernel
theorem F_Mo_liftAll_28 : fetch m_Mo_liftAll 28 = some (.iload_n 2) := by decide +kernel
theorem F_Mo_liftAll_29 : fetch m_Mo_liftAll 29 = some (.iaload) := by decide +kernel
theorem F_Mo_liftAll_30 : fetch m_Mo_liftAll 30 = some (.istore 4) := by decide +kernel
theorem F_Mo_liftAll_32 : fetch m_Mo_liftAll 32 = some (.aload_n 0) := by decide +kernel
theorem F_Mo_liftAll_33 : fetch m_Mo_liftAll 33 = some (.getfield 114) := by decide +kernel
theorem F_Mo_liftAll_36 : fetch m_Mo_liftAll 36 = some (.iload_n 3) := by decide +kernel
theorem F_Mo_liftAll_37 : fetch m_Mo_liftAll 37 = some (.iaload) := by decide +kernel
theorem F_Mo_liftAll_38 : fetch m_Mo_liftAll 38 = some (.istore 5) := by decide +kernel
theorem F_Mo_liftAll_40 : fetch m_Mo_liftAll 40 = some (.iload_n 1) := by decide +kernel
theorem F_Mo_liftAll_41 : fetch m_Mo_liftAll 41 = some (.aload_n 0) := by decide +kernel
theorem F_Mo_liftAll_42 : fetch m_Mo_liftAll 42 = some (.iload 5) := by decide +kernel
theorem F_Mo_liftAll_44 : fetch m_Mo_liftAll 44 = some (.aload_n 0) := by decide +kernel
theorem F_Mo_liftAll_45 : fetch m_Mo_liftAll 45 = some (.getfield 117) := by decide +kernel
theorem F_Mo_liftAll_48 : fetch m_Mo_liftAll 48 = some (.iload 4) := by decide +kernel
theorem F_Mo_liftAll_50 : fetch m_Mo_liftAll 50 = some (.laload) := by decide +kernel
theorem F_Mo_liftAll_51 : fetch m_Mo_liftAll 51 = some (.aload_n 0) := by decide +kernel
theorem F_Mo_liftAll_52 : fetch m_Mo_liftAll 52 = some (.iload 4) := by decide +kernel
theorem F_Mo_liftAll_54 : fetch m_Mo_liftAll 54 = some (.iload 5) := by decide +kernel
theorem F_Mo_liftAll_56 : fetch m_Mo_liftAll 56 = some (.invokevirtual 290) := by decide +kernel
theorem F_Mo_liftAll_59 : fetch m_Mo_liftAll 59 = some (.ifCond .eq 18) := by decide +kernel
theorem F_Mo_liftAll_62 : fetch m_Mo_liftAll 62 = some (.aload_n 0) := by decide +kernel
theorem F_Mo_liftAll_63 : fetch m_Mo_liftAll 63 = some (.aload_n 0) := by decide +kernel
theorem F_Mo_liftAll_64 : fetch m_Mo_liftAll 64 = some (.getfield 16) := by decide +kernel
theorem F_Mo_liftAll_67 : fetch m_Mo_liftAll 67 = some (.aload_n 0) := by decide +kernel
theorem F_Mo_liftAll_68 : fetch m_Mo_liftAll 68 = some (.getfield 21) := by decide +kernel
theorem F_Mo_liftAll_71 : fetch m_Mo_liftAll 71 = some (.invokevirtual 367) := by decide +kernel
theorem F_Mo_liftAll_74 : fetch m_Mo_liftAll 74 = some (.goto 4) := by decide +kernel
theorem F_Mo_liftAll_77 : fetch m_Mo_liftAll 77 = some (.lconst 0) := by decide +kernel
theorem F_Mo_liftAll_78 : fetch m_Mo_liftAll 78 = some (.ladd) := by decide +kernel
theorem F_Mo_liftAll_79 : fetch m_Mo_liftAll 79 = some (.invokevirtual 370) := by decide +kernel
theorem F_Mo_liftAll_82 : fetch m_Mo_liftAll 82 = some (.ior) := by decide +kernel
theorem F_Mo_liftAll_83 : fetch m_Mo_liftAll 83 = some (.istore_n 1) := by decide +kernel
theorem F_Mo_liftAll_84 : fetch m_Mo_liftAll 84 = some (.iinc 3 1) := by decide +kernel
theorem F_Mo_liftAll_87 : fetch m_Mo_liftAll 87 = some (.goto (-71)) := by decide +kernel
theorem F_Mo_liftAll_90 : fetch m_Mo_liftAll 90 = some (.iinc 2 1) := by decide +kernel
theorem F_Mo_liftAll_93 : fetch m_Mo_liftAll 93 = some (.goto (-89)) := by decide +kernel
theorem F_Mo_liftAll_96 : fetch m_Mo_liftAll 96 = some (.iconst 0) := by decide +kernel
theorem F_Mo_liftAll_97 : fetch m_Mo_liftAll 97 = some (.istore_n 2) := by decide +kernel
theorem F_Mo_liftAll_98 : fetch m_Mo_liftAll 98 = some (.iload_n 2) := by decide +kernel
theorem F_Mo_liftAll_99 : fetch m_Mo_liftAll 99 = some (.aload_n 0) := by decide +kernel
theorem F_Mo_liftAll_100 : fetch m_Mo_liftAll 100 = some (.getfield 280) := by decide +kernel
theorem F_Mo_liftAll_103 : fetch m_Mo_liftAll 103 = some (.if_icmp .ge 128) := by decide +kernel
theorem F_Mo_liftAll_106 : fetch m_Mo_liftAll 106 = some (.iload_n 1) := by decide +kernel
theorem F_Mo_liftAll_107 : fetch m_Mo_liftAll 107 = some (.aload_n 0) := by decide +kernel
theorem F_Mo_liftAll_108 : fetch m_Mo_liftAll 108 = some (.iconst 2) := by decide +kernel
theorem F_Mo_liftAll_109 : fetch m_Mo_liftAll 109 = some (.iload_n 2) := by decide +kernel
theorem F_Mo_liftAll_110 : fetch m_Mo_liftAll 110 = some (.imul) := by decide +kernel
theorem F_Mo_liftAll_111 : fetch m_Mo_liftAll 111 = some (.iconst 1) := by decide +kernel
theorem F_Mo_liftAll_112 : fetch m_Mo_liftAll 112 = some (.iadd) := by decide +kernel
theorem F_Mo_liftAll_113 : fetch m_Mo_liftAll 113 = some (.aload_n 0) := by decide +kernel
theorem F_Mo_liftAll_114 : fetch m_Mo_liftAll 114 = some (.getfield 117) := by decide +kernel
theorem F_Mo_liftAll_117 : fetch m_Mo_liftAll 117 = some (.iconst 2) := by decide +kernel
theorem F_Mo_liftAll_118 : fetch m_Mo_liftAll 118 = some (.iload_n 2) := by decide +kernel
theorem F_Mo_liftAll_119 : fetch m_Mo_liftAll 119 = some (.imul) := by decide +kernel
theorem F_Mo_liftAll_120 : fetch m_Mo_liftAll 120 = some (.laload) := by decide +kernel
theorem F_Mo_liftAll_121 : fetch m_Mo_liftAll 121 = some (.aload_n 0) := by decide +kernel
theorem F_Mo_liftAll_122 : fetch m_Mo_liftAll 122 = some (.aload_n 0) := by decide +kernel
theorem F_Mo_liftAll_123 : fetch m_Mo_liftAll 123 = some (.getfield 163) := by decide +kernel
theorem F_Mo_liftAll_126 : fetch m_Mo_liftAll 126 = some (.iload_n 2) := by decide +kernel
theorem F_Mo_liftAll_127 : fetch m_Mo_liftAll 127 = some (.laload) := by decide +kernel
theorem F_Mo_liftAll_128 : fetch m_Mo_liftAll 128 = some (.aload_n 0) := by decide +kernel
theorem F_Mo_liftAll_129 : fetch m_Mo_liftAll 129 = some (.getfield 166) := by decide +kernel
theorem F_Mo_liftAll_132 : fetch m_Mo_liftAll 132 = some (.iload_n 2) := by decide +kernel
theorem F_Mo_liftAll_133 : fetch m_Mo_liftAll 133 = some (.laload) := by decide +kernel
theorem F_Mo_liftAll_134 : fetch m_Mo_liftAll 134 = some (.invokevirtual 367) := by decide +kernel
theorem F_Mo_liftAll_137 : fetch m_Mo_liftAll 137 = some (.ladd) := by decide +kernel
theorem F_Mo_liftAll_138 : fetch m_Mo_liftAll 138 = some (.invokevirtual 370) := by decide +kernel
theorem F_Mo_liftAll_141 : fetch m_Mo_liftAll 141 = some (.ior) := by decide +kernel
theorem F_Mo_liftAll_142 : fetch m_Mo_liftAll 142 = some (.istore_n 1) := by decide +kernel
theorem F_Mo_liftAll_143 : fetch m_Mo_liftAll 143 = some (.aload_n 0) := by decide +kernel
theorem F_Mo_liftAll_144 : fetch m_Mo_liftAll 144 = some (.getfield 169) := by decide +kernel
theorem F_Mo_liftAll_147 : fetch m_Mo_liftAll 147 = some (.iload_n 2) := by decide +kernel
theorem F_Mo_liftAll_148 : fetch m_Mo_liftAll 148 = some (.laload) := by decide +kernel
theorem F_Mo_liftAll_149 : fetch m_Mo_liftAll 149 = some (.lconst 0) := by decide +kernel
theorem F_Mo_liftAll_150 : fetch m_Mo_liftAll 150 = some (.lcmp) := by decide +kernel
theorem F_Mo_liftAll_151 : fetch m_Mo_liftAll 151 = some (.ifCond .ge 9) := by decide +kernel
theorem F_Mo_liftAll_154 : fetch m_Mo_liftAll 154 = some (.ldc2_w 374) := by decide +kernel
theorem F_Mo_liftAll_157 : fetch m_Mo_liftAll 157 = some (.goto 34) := by decide +kernel
theorem F_Mo_liftAll_160 : fetch m_Mo_liftAll 160 = some (.aload_n 0) := by decide +kernel
theorem F_Mo_liftAll_161 : fetch m_Mo_liftAll 161 = some (.getfield 172) := by decide +kernel
theorem F_Mo_liftAll_164 : fetch m_Mo_liftAll 164 = some (.iload_n 2) := by decide +kernel
theorem F_Mo_liftAll_165 : fetch m_Mo_liftAll 165 = some (.laload) := by decide +kernel
theorem F_Mo_liftAll_166 : fetch m_Mo_liftAll 166 = some (.lconst 0) := by decide +kernel
theorem F_Mo_liftAll_167 : fetch m_Mo_liftAll 167 = some (.lcmp) := by decide +kernel
theorem F_Mo_liftAll_168 : fetch m_Mo_liftAll 168 = some (.ifCond .le 22) := by decide +kernel
theorem F_Mo_liftAll_171 : fetch m_Mo_liftAll 171 = some (.aload_n 0) := by decide +kernel
theorem F_Mo_liftAll_172 : fetch m_Mo_liftAll 172 = some (.aload_n 0) := by decide +kernel
theorem F_Mo_liftAll_173 : fetch m_Mo_liftAll 173 = some (.getfield 169) := by decide +kernel
theorem F_Mo_liftAll_176 : fetch m_Mo_liftAll 176 = some (.iload_n 2) := by decide +kernel
theorem F_Mo_liftAll_177 : fetch m_Mo_liftAll 177 = some (.laload) := by decide +kernel
theorem F_Mo_liftAll_178 : fetch m_Mo_liftAll 178 = some (.aload_n 0) := by decide +kernel
theorem F_Mo_liftAll_179 : fetch m_Mo_liftAll 179 = some (.getfield 172) := by decide +kernel
theorem F_Mo_liftAll_182 : fetch m_Mo_liftAll 182 = some (.iload_n 2) := by decide +kernel
theorem F_Mo_liftAll_183 : fetch m_Mo_liftAll 183 = some (.laload) := by decide +kernel
theorem F_Mo_liftAll_184 : fetch m_Mo_liftAll 184 = some (.invokevirtual 367) := by decide +kernel
theorem F_Mo_liftAll_187 : fetch m_Mo_liftAll 187 = some (.goto 4) := by decide +kernel
theorem F_Mo_liftAll_190 : fetch m_Mo_liftAll 190 = some (.lconst 0) := by decide +kernel
theorem F_Mo_liftAll_191 : fetch m_Mo_liftAll 191 = some (.lstore_n 3) := by decide +kernel
theorem F_Mo_liftAll_192 : fetch m_Mo_liftAll 192 = some (.aload_n 0) := by decide +kernel
theorem F_Mo_liftAll_193 : fetch m_Mo_liftAll 193 = some (.getfield 172) := by decide +kernel
theorem F_Mo_liftAll_196 : fetch m_Mo_liftAll 196 = some (.iload_n 2) := by decide +kernel
theorem F_Mo_liftAll_197 : fetch m_Mo_liftAll 197 = some (.laload) := by decide +kernel
theorem F_Mo_liftAll_198 : fetch m_Mo_liftAll 198 = some (.lconst 0) := by decide +kernel
theorem F_Mo_liftAll_199 : fetch m_Mo_liftAll 199 = some (.lcmp) := by decide +kernel
theorem F_Mo_liftAll_200 : fetch m_Mo_liftAll 200 = some (.ifCond .le 25) := by decide +kernel
theorem F_Mo_liftAll_203 : fetch m_Mo_liftAll 203 = some (.iload_n 1) := by decide +kernel
theorem F_Mo_liftAll_204 : fetch m_Mo_liftAll 204 = some (.aload_n 0) := by decide +kernel
theorem F_Mo_liftAll_205 : fetch m_Mo_liftAll 205 = some (.iconst 2) := by decide +kernel
theorem F_Mo_liftAll_206 : fetch m_Mo_liftAll 206 = some (.iload_n 2) := by decide +kernel
theorem F_Mo_liftAll_207 : fetch m_Mo_liftAll 207 = some (.imul) := by decide +kernel
theorem F_Mo_liftAll_208 : fetch m_Mo_liftAll 208 = some (.aload_n 0) := by decide +kernel
theorem F_Mo_liftAll_209 : fetch m_Mo_liftAll 209 = some (.getfield 117) := by decide +kernel
theorem F_Mo_liftAll_212 : fetch m_Mo_liftAll 212 = some (.iconst 2) := by decide +kernel
theorem F_Mo_liftAll_213 : fetch m_Mo_liftAll 213 = some (.iload_n 2) := by decide +kernel
theorem F_Mo_liftAll_214 : fetch m_Mo_liftAll 214 = some (.imul) := by decide +kernel
theorem F_Mo_liftAll_215 : fetch m_Mo_liftAll 215 = some (.iconst 1) := by decide +kernel
theorem F_Mo_liftAll_216 : fetch m_Mo_liftAll 216 = some (.iadd) := by decide +kernel
theorem F_Mo_liftAll_217 : fetch m_Mo_liftAll 217 = some (.laload) := by decide +kernel
theorem F_Mo_liftAll_218 : fetch m_Mo_liftAll 218 = some (.lload_n 3) := by decide +kernel
theorem F_Mo_liftAll_219 : fetch m_Mo_liftAll 219 = some (.lsub) := by decide +kernel
theorem F_Mo_liftAll_220 : fetch m_Mo_liftAll 220 = some (.invokevirtual 370) := by decide +kernel
theorem F_Mo_liftAll_223 : fetch m_Mo_liftAll 223 = some (.ior) := by decide +kernel
theorem F_Mo_liftAll_224 : fetch m_Mo_liftAll 224 = some (.istore_n 1) := by decide +kernel
theorem F_Mo_liftAll_225 : fetch m_Mo_liftAll 225 = some (.iinc 2 1) := by decide +kernel
theorem F_Mo_liftAll_228 : fetch m_Mo_liftAll 228 = some (.goto (-130)) := by decide +kernel
theorem F_Mo_liftAll_231 : fetch m_Mo_liftAll 231 = some (.iload_n 1) := by decide +kernel
theorem F_Mo_liftAll_232 : fetch m_Mo_liftAll 232 = some (.ireturn) := by decide +kernel
theorem F_Mo_units_0 : fetch m_Mo_units 0 = some (.lload_n 1) := by decide +kernel
theorem F_Mo_units_1 : fetch m_Mo_units 1 = some (.aload_n 0) := by decide +kernel
theorem F_Mo_units_2 : fetch m_Mo_units 2 = some (.getfield 358) := by decide +kernel
theorem F_Mo_units_5 : fetch m_Mo_units 5 = some (.lload_n 3) := by decide +kernel
theorem F_Mo_units_6 : fetch m_Mo_units 6 = some (.ldiv) := by decide +kernel
theorem F_Mo_units_7 : fetch m_Mo_units 7 = some (.lmul) := by decide +kernel
theorem F_Mo_units_8 : fetch m_Mo_units 8 = some (.lreturn) := by decide +kernel
theorem F_Mo_lift_0 : fetch m_Mo_lift 0 = some (.aload_n 0) := by decide +kernel
theorem F_Mo_lift_1 : fetch m_Mo_lift 1 = some (.getfield 117) := by decide +kernel
theorem F_Mo_lift_4 : fetch m_Mo_lift 4 = some (.iload_n 1) := by decide +kernel
theorem F_Mo_lift_5 : fetch m_Mo_lift 5 = some (.laload) := by decide +kernel
theorem F_Mo_lift_6 : fetch m_Mo_lift 6 = some (.lload_n 2) := by decide +kernel
theorem F_Mo_lift_7 : fetch m_Mo_lift 7 = some (.lcmp) := by decide +kernel
theorem F_Mo_lift_8 : fetch m_Mo_lift 8 = some (.ifCond .lt 5) := by decide +kernel
theorem F_Mo_lift_11 : fetch m_Mo_lift 11 = some (.iconst 0) := by decide +kernel
theorem F_Mo_lift_12 : fetch m_Mo_lift 12 = some (.ireturn) := by decide +kernel
theorem F_Mo_lift_13 : fetch m_Mo_lift 13 = some (.aload_n 0) := by decide +kernel
theorem F_Mo_lift_14 : fetch m_Mo_lift 14 = some (.getfield 117) := by decide +kernel
theorem F_Mo_lift_17 : fetch m_Mo_lift 17 = some (.iload_n 1) := by decide +kernel
theorem F_Mo_lift_18 : fetch m_Mo_lift 18 = some (.lload_n 2) := by decide +kernel
theorem F_Mo_lift_19 : fetch m_Mo_lift 19 = some (.lastore) := by decide +kernel
theorem F_Mo_lift_20 : fetch m_Mo_lift 20 = some (.iconst 1) := by decide +kernel
theorem F_Mo_lift_21 : fetch m_Mo_lift 21 = some (.ireturn) := by decide +kernel
theorem F_Mo_takeTried_0 : fetch m_Mo_takeTried 0 = some (.aload_n 0) := by decide +kernel
theorem F_Mo_takeTried_1 : fetch m_Mo_takeTried 1 = some (.aload_n 0) := by decide +kernel
theorem F_Mo_takeTried_2 : fetch m_Mo_takeTried 2 = some (.getfield 280) := by decide +kernel
theorem F_Mo_takeTried_5 : fetch m_Mo_takeTried 5 = some (.putfield 242) := by decide +kernel
theorem F_Mo_takeTried_8 : fetch m_Mo_takeTried 8 = some (.aload_n 0) := by decide +kernel
theorem F_Mo_takeTried_9 : fetch m_Mo_takeTried 9 = some (.aload_n 0) := by decide +kernel
theorem F_Mo_takeTried_10 : fetch m_Mo_takeTried 10 = some (.getfield 283) := by decide +kernel
theorem F_Mo_takeTried_13 : fetch m_Mo_takeTried 13 = some (.putfield 245) := by decide +kernel
theorem F_Mo_takeTried_16 : fetch m_Mo_takeTried 16 = some (.iconst 0) := by decide +kernel
theorem F_Mo_takeTried_17 : fetch m_Mo_takeTried 17 = some (.istore_n 1) := by decide +kernel
theorem F_Mo_takeTried_18 : fetch m_Mo_takeTried 18 = some (.iload_n 1) := by decide +kernel
theorem F_Mo_takeTried_19 : fetch m_Mo_takeTried 19 = some (.aload_n 0) := by decide +kernel
theorem F_Mo_takeTried_20 : fetch m_Mo_takeTried 20 = some (.getfield 245) := by decide +kernel
theorem F_Mo_takeTried_23 : fetch m_Mo_takeTried 23 = some (.if_icmp .ge 21) := by decide +kernel
theorem F_Mo_takeTried_26 : fetch m_Mo_takeTried 26 = some (.aload_n 0) := by decide +kernel
theorem F_Mo_takeTried_27 : fetch m_Mo_takeTried 27 = some (.getfield 108) := by decide +kernel
theorem F_Mo_takeTried_30 : fetch m_Mo_takeTried 30 = some (.iload_n 1) := by decide +kernel
theorem F_Mo_takeTried_31 : fetch m_Mo_takeTried 31 = some (.aload_n 0) := by decide +kernel
theorem F_Mo_takeTried_32 : fetch m_Mo_takeTried 32 = some (.getfield 114) := by decide +kernel
theorem F_Mo_takeTried_35 : fetch m_Mo_takeTried 35 = some (.iload_n 1) := by decide +kernel
theorem F_Mo_takeTried_36 : fetch m_Mo_takeTried 36 = some (.iaload) := by decide +kernel
theorem F_Mo_takeTried_37 : fetch m_Mo_takeTried 37 = some (.iastore) := by decide +kernel
theorem F_Mo_takeTried_38 : fetch m_Mo_takeTried 38 = some (.iinc 1 1) := by decide +kernel
theorem F_Mo_takeTried_41 : fetch m_Mo_takeTried 41 = some (.goto (-23)) := by decide +kernel
theorem F_Mo_takeTried_44 : fetch m_Mo_takeTried 44 = some (.iconst 0) := by decide +kernel
theorem F_Mo_takeTried_45 : fetch m_Mo_takeTried 45 = some (.istore_n 1) := by decide +kernel
theorem F_Mo_takeTried_46 : fetch m_Mo_takeTried 46 = some (.iload_n 1) := by decide +kernel
theorem F_Mo_takeTried_47 : fetch m_Mo_takeTried 47 = some (.aload_n 0) := by decide +kernel
theorem F_Mo_takeTried_48 : fetch m_Mo_takeTried 48 = some (.getfield 242) := by decide +kernel
theorem F_Mo_takeTried_51 : fetch m_Mo_takeTried 51 = some (.if_icmp .ge 104) := by decide +kernel
theorem F_Mo_takeTried_54 : fetch m_Mo_takeTried 54 = some (.aload_n 0) := by decide +kernel
theorem F_Mo_takeTried_55 : fetch m_Mo_takeTried 55 = some (.getfield 93) := by decide +kernel
theorem F_Mo_takeTried_58 : fetch m_Mo_takeTried 58 = some (.iload_n 1) := by decide +kernel
theorem F_Mo_takeTried_59 : fetch m_Mo_takeTried 59 = some (.aload_n 0) := by decide +kernel
theorem F_Mo_takeTried_60 : fetch m_Mo_takeTried 60 = some (.getfield 111) := by decide +kernel
theorem F_Mo_takeTried_63 : fetch m_Mo_takeTried 63 = some (.iload_n 1) := by decide +kernel
theorem F_Mo_takeTried_64 : fetch m_Mo_takeTried 64 = some (.iaload) := by decide +kernel
theorem F_Mo_takeTried_65 : fetch m_Mo_takeTried 65 = some (.iastore) := by decide +kernel
theorem F_Mo_takeTried_66 : fetch m_Mo_takeTried 66 = some (.aload_n 0) := by decide +kernel
theorem F_Mo_takeTried_67 : fetch m_Mo_takeTried 67 = some (.aload_n 0) := by decide +kernel
theorem F_Mo_takeTried_68 : fetch m_Mo_takeTried 68 = some (.getfield 117) := by decide +kernel
theorem F_Mo_takeTried_71 : fetch m_Mo_takeTried 71 = some (.iconst 2) := by decide +kernel
theorem F_Mo_takeTried_72 : fetch m_Mo_takeTried 72 = some (.iload_n 1) := by decide +kernel
theorem F_Mo_takeTried_73 : fetch m_Mo_takeTried 73 = some (.imul) := by decide +kernel
theorem F_Mo_takeTried_74 : fetch m_Mo_takeTried 74 = some (.laload) := by decide +kernel
theorem F_Mo_takeTried_75 : fetch m_Mo_takeTried 75 = some (.aload_n 0) := by decide +kernel
theorem F_Mo_takeTried_76 : fetch m_Mo_takeTried 76 = some (.getfield 358) := by decide +kernel
theorem F_Mo_takeTried_79 : fetch m_Mo_takeTried 79 = some (.invokevirtual 208) := by decide +kernel
theorem F_Mo_takeTried_82 : fetch m_Mo_takeTried 82 = some (.aload_n 0) := by decide +kernel
theorem F_Mo_takeTried_83 : fetch m_Mo_takeTried 83 = some (.getfield 96) := by decide +kernel
theorem F_Mo_takeTried_86 : fetch m_Mo_takeTried 86 = some (.iload_n 1) := by decide +kernel
theorem F_Mo_takeTried_87 : fetch m_Mo_takeTried 87 = some (.aload_n 0) := by decide +kernel
theorem F_Mo_takeTried_88 : fetch m_Mo_takeTried 88 = some (.getfield 189) := by decide +kernel
theorem F_Mo_takeTried_91 : fetch m_Mo_takeTried 91 = some (.lastore) := by decide +kernel
theorem F_Mo_takeTried_92 : fetch m_Mo_takeTried 92 = some (.aload_n 0) := by decide +kernel
theorem F_Mo_takeTried_93 : fetch m_Mo_takeTried 93 = some (.getfield 99) := by decide +kernel
theorem F_Mo_takeTried_96 : fetch m_Mo_takeTried 96 = some (.iload_n 1) := by decide +kernel
theorem F_Mo_takeTried_97 : fetch m_Mo_takeTried 97 = some (.aload_n 0) := by decide +kernel
theorem F_Mo_takeTried_98 : fetch m_Mo_takeTried 98 = some (.getfield 192) := by decide +kernel
theorem F_Mo_takeTried_101 : fetch m_Mo_takeTried 101 = some (.lastore) := by decide +kernel
theorem F_Mo_takeTried_102 : fetch m_Mo_takeTried 102 = some (.aload_n 0) := by decide +kernel
theorem F_Mo_takeTried_103 : fetch m_Mo_takeTried 103 = some (.aload_n 0) := by decide +kernel
theorem F_Mo_takeTried_104 : fetch m_Mo_takeTried 104 = some (.getfield 117) := by decide +kernel
theorem F_Mo_takeTried_107 : fetch m_Mo_takeTried 107 = some (.iconst 2) := by decide +kernel
theorem F_Mo_takeTried_108 : fetch m_Mo_takeTried 108 = some (.iload_n 1) := by decide +kernel
theorem F_Mo_takeTried_109 : fetch m_Mo_takeTried 109 = some (.imul) := by decide +kernel
theorem F_Mo_takeTried_110 : fetch m_Mo_takeTried 110 = some (.iconst 1) := by decide +kernel
theorem F_Mo_takeTried_111 : fetch m_Mo_takeTried 111 = some (.iadd) := by decide +kernel
theorem F_Mo_takeTried_112 : fetch m_Mo_takeTried 112 = some (.laload) := by decide +kernel
theorem F_Mo_takeTried_113 : fetch m_Mo_takeTried 113 = some (.aload_n 0) := by decide +kernel
theorem F_Mo_takeTried_114 : fetch m_Mo_takeTried 114 = some (.getfield 117) := by decide +kernel
theorem F_Mo_takeTried_117 : fetch m_Mo_takeTried 117 = some (.iconst 2) := by decide +kernel
theorem F_Mo_takeTried_118 : fetch m_Mo_takeTried 118 = some (.iload_n 1) := by decide +kernel
theorem F_Mo_takeTried_119 : fetch m_Mo_takeTried 119 = some (.imul) := by decide +kernel
theorem F_Mo_takeTried_120 : fetch m_Mo_takeTried 120 = some (.laload) := by decide +kernel
theorem F_Mo_takeTried_121 : fetch m_Mo_takeTried 121 = some (.lsub) := by decide +kernel
theorem F_Mo_takeTried_122 : fetch m_Mo_takeTried 122 = some (.aload_n 0) := by decide +kernel
theorem F_Mo_takeTried_123 : fetch m_Mo_takeTried 123 = some (.getfield 358) := by decide +kernel
theorem F_Mo_takeTried_126 : fetch m_Mo_takeTried 126 = some (.invokevirtual 208) := by decide +kernel
theorem F_Mo_takeTried_129 : fetch m_Mo_takeTried 129 = some (.aload_n 0) := by decide +kernel
theorem F_Mo_takeTried_130 : fetch m_Mo_takeTried 130 = some (.getfield 102) := by decide +kernel
theorem F_Mo_takeTried_133 : fetch m_Mo_takeTried 133 = some (.iload_n 1) := by decide +kernel
theorem F_Mo_takeTried_134 : fetch m_Mo_takeTried 134 = some (.aload_n 0) := by decide +kernel
theorem F_Mo_takeTried_135 : fetch m_Mo_takeTried 135 = some (.getfield 189) := by decide +kernel
theorem F_Mo_takeTried_138 : fetch m_Mo_takeTried 138 = some (.lastore) := by decide +kernel
theorem F_Mo_takeTried_139 : fetch m_Mo_takeTried 139 = some (.aload_n 0) := by decide +kernel
theorem F_Mo_takeTried_140 : fetch m_Mo_takeTried 140 = some (.getfield 105) := by decide +kernel
theorem F_Mo_takeTried_143 : fetch m_Mo_takeTried 143 = some (.iload_n 1) := by decide +kernel
theorem F_Mo_takeTried_144 : fetch m_Mo_takeTried 144 = some (.aload_n 0) := by decide +kernel
theorem F_Mo_takeTried_145 : fetch m_Mo_takeTried 145 = some (.getfield 192) := by decide +kernel
theorem F_Mo_takeTried_148 : fetch m_Mo_takeTried 148 = some (.lastore) := by decide +kernel
theorem F_Mo_takeTried_149 : fetch m_Mo_takeTried 149 = some (.iinc 1 1) := by decide +kernel
theorem F_Mo_takeTried_152 : fetch m_Mo_takeTried 152 = some (.goto (-106)) := by decide +kernel
theorem F_Mo_takeTried_155 : fetch m_Mo_takeTried 155 = some (.return_) := by decide +kernel
theorem F_Mo_seek_0 : fetch m_Mo_seek 0 = some (.aload_n 0) := by decide +kernel
theorem F_Mo_seek_1 : fetch m_Mo_seek 1 = some (.iload_n 1) := by decide +kernel
theorem F_Mo_seek_2 : fetch m_Mo_seek 2 = some (.iconst 0) := by decide +kernel
theorem F_Mo_seek_3 : fetch m_Mo_seek 3 = some (.bipush 6) := by decide +kernel
theorem F_Mo_seek_5 : fetch m_Mo_seek 5 = some (.invokestatic 200) := by decide +kernel
theorem F_Mo_seek_8 : fetch m_Mo_seek 8 = some (.ifCond .eq 7) := by decide +kernel
theorem F_Mo_seek_11 : fetch m_Mo_seek 11 = some (.iconst 0) := by decide +kernel
theorem F_Mo_seek_12 : fetch m_Mo_seek 12 = some (.goto 4) := by decide +kernel
theorem F_Mo_seek_15 : fetch m_Mo_seek 15 = some (.iconst 1) := by decide +kernel
theorem F_Mo_seek_16 : fetch m_Mo_seek 16 = some (.putfield 178) := by decide +kernel
theorem F_Mo_seek_19 : fetch m_Mo_seek 19 = some (.aload_n 0) := by decide +kernel
theorem F_Mo_seek_20 : fetch m_Mo_seek 20 = some (.getfield 178) := by decide +kernel
theorem F_Mo_seek_23 : fetch m_Mo_seek 23 = some (.ifCond .le 5) := by decide +kernel
theorem F_Mo_seek_26 : fetch m_Mo_seek 26 = some (.iconst 0) := by decide +kernel
theorem F_Mo_seek_27 : fetch m_Mo_seek 27 = some (.ireturn) := by decide +kernel
theorem F_Mo_seek_28 : fetch m_Mo_seek 28 = some (.iconst 0) := by decide +kernel
theorem F_Mo_seek_29 : fetch m_Mo_seek 29 = some (.istore_n 2) := by decide +kernel
theorem F_Mo_seek_30 : fetch m_Mo_seek 30 = some (.iload_n 2) := by decide +kernel
theorem F_Mo_seek_31 : fetch m_Mo_seek 31 = some (.iload_n 1) := by decide +kernel
theorem F_Mo_seek_32 : fetch m_Mo_seek 32 = some (.if_icmp .gt 26) := by decide +kernel
theorem F_Mo_seek_35 : fetch m_Mo_seek 35 = some (.aload_n 0) := by decide +kernel
theorem F_Mo_seek_36 : fetch m_Mo_seek 36 = some (.iload_n 2) := by decide +kernel
theorem F_Mo_seek_37 : fetch m_Mo_seek 37 = some (.invokevirtual 394) := by decide +kernel
theorem F_Mo_seek_40 : fetch m_Mo_seek 40 = some (.ifCond .ne 6) := by decide +kernel
theorem F_Mo_seek_43 : fetch m_Mo_seek 43 = some (.goto 9) := by decide +kernel
theorem F_Mo_seek_46 : fetch m_Mo_seek 46 = some (.aload_n 0) := by decide +kernel
theorem F_Mo_seek_47 : fetch m_Mo_seek 47 = some (.invokevirtual 388) := by decide +kernel
theorem F_Mo_seek_50 : fetch m_Mo_seek 50 = some (.iload_n 2) := by decide +kernel
theorem F_Mo_seek_51 : fetch m_Mo_seek 51 = some (.ireturn) := by decide +kernel
theorem F_Mo_seek_52 : fetch m_Mo_seek 52 = some (.iinc 2 2) := by decide +kernel
theorem F_Mo_seek_55 : fetch m_Mo_seek 55 = some (.goto (-25)) := by decide +kernel
theorem F_Mo_seek_58 : fetch m_Mo_seek 58 = some (.iconst (-1)) := by decide +kernel
theorem F_Mo_seek_59 : fetch m_Mo_seek 59 = some (.ireturn) := by decide +kernel
theorem F_Mo_finds_0 : fetch m_Mo_finds 0 = some (.iconst 0) := by decide +kernel
theorem F_Mo_finds_1 : fetch m_Mo_finds 1 = some (.istore_n 2) := by decide +kernel
theorem F_Mo_finds_2 : fetch m_Mo_finds 2 = some (.iload_n 1) := by decide +kernel
theorem F_Mo_finds_3 : fetch m_Mo_finds 3 = some (.ifCond .le 10) := by decide +kernel
theorem F_Mo_finds_6 : fetch m_Mo_finds 6 = some (.aload_n 0) := by decide +kernel
theorem F_Mo_finds_7 : fetch m_Mo_finds 7 = some (.getfield 175) := by decide +kernel
theorem F_Mo_finds_10 : fetch m_Mo_finds 10 = some (.iconst 0) := by decide +kernel
theorem F_Mo_finds_11 : fetch m_Mo_finds 11 = some (.iconst (-1)) := by decide +kernel
theorem F_Mo_finds_12 : fetch m_Mo_finds 12 = some (.iastore) := by decide +kernel
theorem F_Mo_finds_13 : fetch m_Mo_finds 13 = some (.iload_n 2) := by decide +kernel
theorem F_Mo_finds_14 : fetch m_Mo_finds 14 = some (.ifCond .lt 99) := by decide +kernel
theorem F_Mo_finds_17 : fetch m_Mo_finds 17 = some (.iload_n 2) := by decide +kernel
theorem F_Mo_finds_18 : fetch m_Mo_finds 18 = some (.iload_n 1) := by decide +kernel
theorem F_Mo_finds_19 : fetch m_Mo_finds 19 = some (.if_icmp .ne 39) := by decide +kernel
theorem F_Mo_finds_22 : fetch m_Mo_finds 22 = some (.aload_n 0) := by decide +kernel
theorem F_Mo_finds_23 : fetch m_Mo_finds 23 = some (.iload_n 1) := by decide +kernel
theorem F_Mo_finds_24 : fetch m_Mo_finds 24 = some (.invokevirtual 391) := by decide +kernel
theorem F_Mo_finds_27 : fetch m_Mo_finds 27 = some (.ifCond .eq 25) := by decide +kernel
theorem F_Mo_finds_30 : fetch m_Mo_finds 30 = some (.aload_n 0) := by decide +kernel
theorem F_Mo_finds_31 : fetch m_Mo_finds 31 = some (.getfield 283) := by decide +kernel
theorem F_Mo_finds_34 : fetch m_Mo_finds 34 = some (.iconst 2) := by decide +kernel
theorem F_Mo_finds_35 : fetch m_Mo_finds 35 = some (.aload_n 0) := by decide +kernel
theorem F_Mo_finds_36 : fetch m_Mo_finds 36 = some (.getfield 280) := by decide +kernel
theorem F_Mo_finds_39 : fetch m_Mo_finds 39 = some (.imul) := by decide +kernel
theorem F_Mo_finds_40 : fetch m_Mo_finds 40 = some (.if_icmp .ne 12) := by decide +kernel
theorem F_Mo_finds_43 : fetch m_Mo_finds 43 = some (.aload_n 0) := by decide +kernel
theorem F_Mo_finds_44 : fetch m_Mo_finds 44 = some (.invokevirtual 385) := by decide +kernel
theorem F_Mo_finds_47 : fetch m_Mo_finds 47 = some (.ifCond .ne 5) := by decide +kernel
theorem F_Mo_finds_50 : fetch m_Mo_finds 50 = some (.iconst 1) := by decide +kernel
theorem F_Mo_finds_51 : fetch m_Mo_finds 51 = some (.ireturn) := by decide +kernel
theorem F_Mo_finds_52 : fetch m_Mo_finds 52 = some (.iinc 2 (-1)) := by decide +kernel
theorem F_Mo_finds_55 : fetch m_Mo_finds 55 = some (.goto (-42)) := by decide +kernel
theorem F_Mo_finds_58 : fetch m_Mo_finds 58 = some (.aload_n 0) := by decide +kernel
theorem F_Mo_finds_59 : fetch m_Mo_finds 59 = some (.getfield 175) := by decide +kernel
theorem F_Mo_finds_62 : fetch m_Mo_finds 62 = some (.iload_n 2) := by decide +kernel
theorem F_Mo_finds_63 : fetch m_Mo_finds 63 = some (.dup2) := by decide +kernel
theorem F_Mo_finds_64 : fetch m_Mo_finds 64 = some (.iaload) := by decide +kernel
theorem F_Mo_finds_65 : fetch m_Mo_finds 65 = some (.iconst 1) := by decide +kernel
theorem F_Mo_finds_66 : fetch m_Mo_finds 66 = some (.iadd) := by decide +kernel
theorem F_Mo_finds_67 : fetch m_Mo_finds 67 = some (.iastore) := by decide +kernel
theorem F_Mo_finds_68 : fetch m_Mo_finds 68 = some (.aload_n 0) := by decide +kernel
theorem F_Mo_finds_69 : fetch m_Mo_finds 69 = some (.getfield 175) := by decide +kernel
theorem F_Mo_finds_72 : fetch m_Mo_finds 72 = some (.iload_n 2) := by decide +kernel
theorem F_Mo_finds_73 : fetch m_Mo_finds 73 = some (.iaload) := by decide +kernel
theorem F_Mo_finds_74 : fetch m_Mo_finds 74 = some (.bipush 14) := by decide +kernel
theorem F_Mo_finds_76 : fetch m_Mo_finds 76 = some (.if_icmp .le 9) := by decide +kernel
theorem F_Mo_finds_79 : fetch m_Mo_finds 79 = some (.iinc 2 (-1)) := by decide +kernel
theorem F_Mo_finds_82 : fetch m_Mo_finds 82 = some (.goto (-69)) := by decide +kernel
theorem F_Mo_finds_85 : fetch m_Mo_finds 85 = some (.aload_n 0) := by decide +kernel
theorem F_Mo_finds_86 : fetch m_Mo_finds 86 = some (.iload_n 2) := by decide +kernel
theorem F_Mo_finds_87 : fetch m_Mo_finds 87 = some (.iconst 1) := by decide +kernel
theorem F_Mo_finds_88 : fetch m_Mo_finds 88 = some (.iadd) := by decide +kernel
theorem F_Mo_finds_89 : fetch m_Mo_finds 89 = some (.invokevirtual 391) := by decide +kernel
theorem F_Mo_finds_92 : fetch m_Mo_finds 92 = some (.ifCond .eq (-79)) := by decide +kernel
theorem F_Mo_finds_95 : fetch m_Mo_finds 95 = some (.iinc 2 1) := by decide +kernel
theorem F_Mo_finds_98 : fetch m_Mo_finds 98 = some (.iload_n 2) := by decide +kernel
theorem F_Mo_finds_99 : fetch m_Mo_finds 99 = some (.iload_n 1) := by decide +kernel
theorem F_Mo_finds_100 : fetch m_Mo_finds 100 = some (.if_icmp .ge (-87)) := by decide +kernel
theorem F_Mo_finds_103 : fetch m_Mo_finds 103 = some (.aload_n 0) := by decide +kernel
theorem F_Mo_finds_104 : fetch m_Mo_finds 104 = some (.getfield 175) := by decide +kernel
theorem F_Mo_finds_107 : fetch m_Mo_finds 107 = some (.iload_n 2) := by decide +kernel
theorem F_Mo_finds_108 : fetch m_Mo_finds 108 = some (.iconst (-1)) := by decide +kernel
theorem F_Mo_finds_109 : fetch m_Mo_finds 109 = some (.iastore) := by decide +kernel
theorem F_Mo_finds_110 : fetch m_Mo_finds 110 = some (.goto (-97)) := by decide +kernel
theorem F_Mo_finds_113 : fetch m_Mo_finds 113 = some (.iconst 0) := by decide +kernel
theorem F_Mo_finds_114 : fetch m_Mo_finds 114 = some (.ireturn) := by decide +kernel
theorem F_Mo_takeEvents_0 : fetch m_Mo_takeEvents 0 = some (.aload_n 0) := by decide +kernel
theorem F_Mo_takeEvents_1 : fetch m_Mo_takeEvents 1 = some (.iconst 0) := by decide +kernel
theorem F_Mo_takeEvents_2 : fetch m_Mo_takeEvents 2 = some (.putfield 280) := by decide +kernel
theorem F_Mo_takeEvents_5 : fetch m_Mo_takeEvents 5 = some (.aload_n 0) := by decide +kernel
theorem F_Mo_takeEvents_6 : fetch m_Mo_takeEvents 6 = some (.iconst 0) := by decide +kernel
theorem F_Mo_takeEvents_7 : fetch m_Mo_takeEvents 7 = some (.putfield 283) := by decide +kernel
theorem F_Mo_takeEvents_10 : fetch m_Mo_takeEvents 10 = some (.iconst 0) := by decide +kernel
theorem F_Mo_takeEvents_11 : fetch m_Mo_takeEvents 11 = some (.istore_n 2) := by decide +kernel
theorem F_Mo_takeEvents_12 : fetch m_Mo_takeEvents 12 = some (.iload_n 2) := by decide +kernel
theorem F_Mo_takeEvents_13 : fetch m_Mo_takeEvents 13 = some (.iload_n 1) := by decide +kernel
theorem F_Mo_takeEvents_14 : fetch m_Mo_takeEvents 14 = some (.if_icmp .ge 148) := by decide +kernel
theorem F_Mo_takeEvents_17 : fetch m_Mo_takeEvents 17 = some (.aload_n 0) := by decide +kernel
theorem F_Mo_takeEvents_18 : fetch m_Mo_takeEvents 18 = some (.getfield 175) := by decide +kernel
theorem F_Mo_takeEvents_21 : fetch m_Mo_takeEvents 21 = some (.iload_n 2) := by decide +kernel
theorem F_Mo_takeEvents_22 : fetch m_Mo_takeEvents 22 = some (.iaload) := by decide +kernel
theorem F_Mo_takeEvents_23 : fetch m_Mo_takeEvents 23 = some (.istore_n 3) := by decide +kernel
theorem F_Mo_takeEvents_24 : fetch m_Mo_takeEvents 24 = some (.iload_n 3) := by decide +kernel
theorem F_Mo_takeEvents_25 : fetch m_Mo_takeEvents 25 = some (.bipush 12) := by decide +kernel
theorem F_Mo_takeEvents_27 : fetch m_Mo_takeEvents 27 = some (.if_icmp .ge 51) := by decide +kernel
theorem F_Mo_takeEvents_30 : fetch m_Mo_takeEvents 30 = some (.iload_n 3) := by decide +kernel
theorem F_Mo_takeEvents_31 : fetch m_Mo_takeEvents 31 = some (.aload_n 0) := by decide +kernel
theorem F_Mo_takeEvents_32 : fetch m_Mo_takeEvents 32 = some (.getfield 218) := by decide +kernel
theorem F_Mo_takeEvents_35 : fetch m_Mo_takeEvents 35 = some (.if_icmp .lt 5) := by decide +kernel
theorem F_Mo_takeEvents_38 : fetch m_Mo_takeEvents 38 = some (.iconst 0) := by decide +kernel
theorem F_Mo_takeEvents_39 : fetch m_Mo_takeEvents 39 = some (.ireturn) := by decide +kernel
theorem F_Mo_takeEvents_40 : fetch m_Mo_takeEvents 40 = some (.aload_n 0) := by decide +kernel
theorem F_Mo_takeEvents_41 : fetch m_Mo_takeEvents 41 = some (.getfield 111) := by decide +kernel
theorem F_Mo_takeEvents_44 : fetch m_Mo_takeEvents 44 = some (.aload_n 0) := by decide +kernel
theorem F_Mo_takeEvents_45 : fetch m_Mo_takeEvents 45 = some (.getfield 280) := by decide +kernel
theorem F_Mo_takeEvents_48 : fetch m_Mo_takeEvents 48 = some (.iload_n 3) := by decide +kernel
theorem F_Mo_takeEvents_49 : fetch m_Mo_takeEvents 49 = some (.iastore) := by decide +kernel
theorem F_Mo_takeEvents_50 : fetch m_Mo_takeEvents 50 = some (.aload_n 0) := by decide +kernel
theorem F_Mo_takeEvents_51 : fetch m_Mo_takeEvents 51 = some (.getfield 114) := by decide +kernel
theorem F_Mo_takeEvents_54 : fetch m_Mo_takeEvents 54 = some (.aload_n 0) := by decide +kernel
theorem F_Mo_takeEvents_55 : fetch m_Mo_takeEvents 55 = some (.getfield 283) := by decide +kernel
theorem F_Mo_takeEvents_58 : fetch m_Mo_takeEvents 58 = some (.iconst 2) := by decide +kernel
theorem F_Mo_takeEvents_59 : fetch m_Mo_takeEvents 59 = some (.aload_n 0) := by decide +kernel
theorem F_Mo_takeEvents_60 : fetch m_Mo_takeEvents 60 = some (.getfield 280) := by decide +kernel
theorem F_Mo_takeEvents_63 : fetch m_Mo_takeEvents 63 = some (.imul) := by decide +kernel
theorem F_Mo_takeEvents_64 : fetch m_Mo_takeEvents 64 = some (.iastore) := by decide +kernel
theorem F_Mo_takeEvents_65 : fetch m_Mo_takeEvents 65 = some (.aload_n 0) := by decide +kernel
theorem F_Mo_takeEvents_66 : fetch m_Mo_takeEvents 66 = some (.dup) := by decide +kernel
theorem F_Mo_takeEvents_67 : fetch m_Mo_takeEvents 67 = some (.getfield 280) := by decide +kernel
theorem F_Mo_takeEvents_70 : fetch m_Mo_takeEvents 70 = some (.iconst 1) := by decide +kernel
theorem F_Mo_takeEvents_71 : fetch m_Mo_takeEvents 71 = some (.iadd) := by decide +kernel
theorem F_Mo_takeEvents_72 : fetch m_Mo_takeEvents 72 = some (.putfield 280) := by decide +kernel
theorem F_Mo_takeEvents_75 : fetch m_Mo_takeEvents 75 = some (.goto 71) := by decide +kernel
theorem F_Mo_takeEvents_78 : fetch m_Mo_takeEvents 78 = some (.iload_n 3) := by decide +kernel
theorem F_Mo_takeEvents_79 : fetch m_Mo_takeEvents 79 = some (.bipush 12) := by decide +kernel
theorem F_Mo_takeEvents_81 : fetch m_Mo_takeEvents 81 = some (.isub) := by decide +kernel
theorem F_Mo_takeEvents_82 : fetch m_Mo_takeEvents 82 = some (.istore 4) := by decide +kernel
theorem F_Mo_takeEvents_84 : fetch m_Mo_takeEvents 84 = some (.iload 4) := by decide +kernel
theorem F_Mo_takeEvents_86 : fetch m_Mo_takeEvents 86 = some (.aload_n 0) := by decide +kernel
theorem F_Mo_takeEvents_87 : fetch m_Mo_takeEvents 87 = some (.getfield 280) := by decide +kernel
theorem F_Mo_takeEvents_90 : fetch m_Mo_takeEvents 90 = some (.if_icmp .lt 5) := by decide +kernel
theorem F_Mo_takeEvents_93 : fetch m_Mo_takeEvents 93 = some (.iconst 0) := by decide +kernel
theorem F_Mo_takeEvents_94 : fetch m_Mo_takeEvents 94 = some (.ireturn) := by decide +kernel
theorem F_Mo_takeEvents_95 : fetch m_Mo_takeEvents 95 = some (.iconst 0) := by decide +kernel
theorem F_Mo_takeEvents_96 : fetch m_Mo_takeEvents 96 = some (.istore 5) := by decide +kernel
theorem F_Mo_takeEvents_98 : fetch m_Mo_takeEvents 98 = some (.iload 5) := by decide +kernel
theorem F_Mo_takeEvents_100 : fetch m_Mo_takeEvents 100 = some (.aload_n 0) := by decide +kernel
theorem F_Mo_takeEvents_101 : fetch m_Mo_takeEvents 101 = some (.getfield 283) := by decide +kernel
theorem F_Mo_takeEvents_104 : fetch m_Mo_takeEvents 104 = some (.if_icmp .ge 27) := by decide +kernel
theorem F_Mo_takeEvents_107 : fetch m_Mo_takeEvents 107 = some (.aload_n 0) := by decide +kernel
theorem F_Mo_takeEvents_108 : fetch m_Mo_takeEvents 108 = some (.getfield 114) := by decide +kernel
theorem F_Mo_takeEvents_111 : fetch m_Mo_takeEvents 111 = some (.iload 5) := by decide +kernel
theorem F_Mo_takeEvents_113 : fetch m_Mo_takeEvents 113 = some (.iaload) := by decide +kernel
theorem F_Mo_takeEvents_114 : fetch m_Mo_takeEvents 114 = some (.iconst 2) := by decide +kernel
theorem F_Mo_takeEvents_115 : fetch m_Mo_takeEvents 115 = some (.iload 4) := by decide +kernel
theorem F_Mo_takeEvents_117 : fetch m_Mo_takeEvents 117 = some (.imul) := by decide +kernel
theorem F_Mo_takeEvents_118 : fetch m_Mo_takeEvents 118 = some (.iconst 1) := by decide +kernel
theorem F_Mo_takeEvents_119 : fetch m_Mo_takeEvents 119 = some (.iadd) := by decide +kernel
theorem F_Mo_takeEvents_120 : fetch m_Mo_takeEvents 120 = some (.if_icmp .ne 5) := by decide +kernel
theorem F_Mo_takeEvents_123 : fetch m_Mo_takeEvents 123 = some (.iconst 0) := by decide +kernel
theorem F_Mo_takeEvents_124 : fetch m_Mo_takeEvents 124 = some (.ireturn) := by decide +kernel
theorem F_Mo_takeEvents_125 : fetch m_Mo_takeEvents 125 = some (.iinc 5 1) := by decide +kernel
theorem F_Mo_takeEvents_128 : fetch m_Mo_takeEvents 128 = some (.goto (-30)) := by decide +kernel
theorem F_Mo_takeEvents_131 : fetch m_Mo_takeEvents 131 = some (.aload_n 0) := by decide +kernel
theorem F_Mo_takeEvents_132 : fetch m_Mo_takeEvents 132 = some (.getfield 114) := by decide +kernel
theorem F_Mo_takeEvents_135 : fetch m_Mo_takeEvents 135 = some (.aload_n 0) := by decide +kernel
theorem F_Mo_takeEvents_136 : fetch m_Mo_takeEvents 136 = some (.getfield 283) := by decide +kernel
theorem F_Mo_takeEvents_139 : fetch m_Mo_takeEvents 139 = some (.iconst 2) := by decide +kernel
theorem F_Mo_takeEvents_140 : fetch m_Mo_takeEvents 140 = some (.iload 4) := by decide +kernel
theorem F_Mo_takeEvents_142 : fetch m_Mo_takeEvents 142 = some (.imul) := by decide +kernel
theorem F_Mo_takeEvents_143 : fetch m_Mo_takeEvents 143 = some (.iconst 1) := by decide +kernel
theorem F_Mo_takeEvents_144 : fetch m_Mo_takeEvents 144 = some (.iadd) := by decide +kernel
theorem F_Mo_takeEvents_145 : fetch m_Mo_takeEvents 145 = some (.iastore) := by decide +kernel
theorem F_Mo_takeEvents_146 : fetch m_Mo_takeEvents 146 = some (.aload_n 0) := by decide +kernel
theorem F_Mo_takeEvents_147 : fetch m_Mo_takeEvents 147 = some (.dup) := by decide +kernel
theorem F_Mo_takeEvents_148 : fetch m_Mo_takeEvents 148 = some (.getfield 283) := by decide +kernel
theorem F_Mo_takeEvents_151 : fetch m_Mo_takeEvents 151 = some (.iconst 1) := by decide +kernel
theorem F_Mo_takeEvents_152 : fetch m_Mo_takeEvents 152 = some (.iadd) := by decide +kernel
theorem F_Mo_takeEvents_153 : fetch m_Mo_takeEvents 153 = some (.putfield 283) := by decide +kernel
theorem F_Mo_takeEvents_156 : fetch m_Mo_takeEvents 156 = some (.iinc 2 1) := by decide +kernel
theorem F_Mo_takeEvents_159 : fetch m_Mo_takeEvents 159 = some (.goto (-147)) := by decide +kernel
theorem F_Mo_takeEvents_162 : fetch m_Mo_takeEvents 162 = some (.iconst 1) := by decide +kernel
theorem F_Mo_takeEvents_163 : fetch m_Mo_takeEvents 163 = some (.ireturn) := by decide +kernel
theorem F_Mo_count_0 : fetch m_Mo_count 0 = some (.aload_n 0) := by decide +kernel
theorem F_Mo_count_1 : fetch m_Mo_count 1 = some (.iload_n 1) := by decide +kernel
theorem F_Mo_count_2 : fetch m_Mo_count 2 = some (.iconst 0) := by decide +kernel
theorem F_Mo_count_3 : fetch m_Mo_count 3 = some (.iconst 4) := by decide +kernel
theorem F_Mo_count_4 : fetch m_Mo_count 4 = some (.invokestatic 200) := by decide +kernel
theorem F_Mo_count_7 : fetch m_Mo_count 7 = some (.ifCond .eq 7) := by decide +kernel
theorem F_Mo_count_10 : fetch m_Mo_count 10 = some (.iconst 0) := by decide +kernel
theorem F_Mo_count_11 : fetch m_Mo_count 11 = some (.goto 4) := by decide +kernel
theorem F_Mo_count_14 : fetch m_Mo_count 14 = some (.iconst 1) := by decide +kernel
theorem F_Mo_count_15 : fetch m_Mo_count 15 = some (.putfield 178) := by decide +kernel
theorem F_Mo_count_18 : fetch m_Mo_count 18 = some (.aload_n 0) := by decide +kernel
theorem F_Mo_count_19 : fetch m_Mo_count 19 = some (.getfield 178) := by decide +kernel
theorem F_Mo_count_22 : fetch m_Mo_count 22 = some (.ifCond .le 5) := by decide +kernel
theorem F_Mo_count_25 : fetch m_Mo_count 25 = some (.iconst 0) := by decide +kernel
theorem F_Mo_count_26 : fetch m_Mo_count 26 = some (.ireturn) := by decide +kernel
theorem F_Mo_count_27 : fetch m_Mo_count 27 = some (.iload_n 1) := by decide +kernel
theorem F_Mo_count_28 : fetch m_Mo_count 28 = some (.ifCond .ne 10) := by decide +kernel
theorem F_Mo_count_31 : fetch m_Mo_count 31 = some (.aload_n 0) := by decide +kernel
theorem F_Mo_count_32 : fetch m_Mo_count 32 = some (.getfield 324) := by decide +kernel
theorem F_Mo_count_35 : fetch m_Mo_count 35 = some (.goto 43) := by decide +kernel
theorem F_Mo_count_38 : fetch m_Mo_count 38 = some (.iload_n 1) := by decide +kernel
theorem F_Mo_count_39 : fetch m_Mo_count 39 = some (.iconst 1) := by decide +kernel
theorem F_Mo_count_40 : fetch m_Mo_count 40 = some (.if_icmp .ne 10) := by decide +kernel
theorem F_Mo_count_43 : fetch m_Mo_count 43 = some (.aload_n 0) := by decide +kernel
theorem F_Mo_count_44 : fetch m_Mo_count 44 = some (.getfield 138) := by decide +kernel
theorem F_Mo_count_47 : fetch m_Mo_count 47 = some (.goto 31) := by decide +kernel
theorem F_Mo_count_50 : fetch m_Mo_count 50 = some (.iload_n 1) := by decide +kernel
theorem F_Mo_count_51 : fetch m_Mo_count 51 = some (.iconst 2) := by decide +kernel
theorem F_Mo_count_52 : fetch m_Mo_count 52 = some (.if_icmp .ne 10) := by decide +kernel
theorem F_Mo_count_55 : fetch m_Mo_count 55 = some (.aload_n 0) := by decide +kernel
theorem F_Mo_count_56 : fetch m_Mo_count 56 = some (.getfield 218) := by decide +kernel
theorem F_Mo_count_59 : fetch m_Mo_count 59 = some (.goto 19) := by decide +kernel
theorem F_Mo_count_62 : fetch m_Mo_count 62 = some (.iload_n 1) := by decide +kernel
theorem F_Mo_count_63 : fetch m_Mo_count 63 = some (.iconst 3) := by decide +kernel
theorem F_Mo_count_64 : fetch m_Mo_count 64 = some (.if_icmp .ne 10) := by decide +kernel
theorem F_Mo_count_67 : fetch m_Mo_count 67 = some (.aload_n 0) := by decide +kernel
theorem F_Mo_count_68 : fetch m_Mo_count 68 = some (.getfield 242) := by decide +kernel
theorem F_Mo_count_71 : fetch m_Mo_count 71 = some (.goto 7) := by decide +kernel
theorem F_Mo_count_74 : fetch m_Mo_count 74 = some (.aload_n 0) := by decide +kernel
theorem F_Mo_count_75 : fetch m_Mo_count 75 = some (.getfield 245) := by decide +kernel
theorem F_Mo_count_78 : fetch m_Mo_count 78 = some (.ireturn) := by decide +kernel
theorem F_Mo_done_0 : fetch m_Mo_done 0 = some (.aload_n 0) := by decide +kernel
theorem F_Mo_done_1 : fetch m_Mo_done 1 = some (.iload_n 1) := by decide +kernel
theorem F_Mo_done_2 : fetch m_Mo_done 2 = some (.iconst 0) := by decide +kernel
theorem F_Mo_done_3 : fetch m_Mo_done 3 = some (.aload_n 0) := by decide +kernel
theorem F_Mo_done_4 : fetch m_Mo_done 4 = some (.getfield 242) := by decide +kernel
theorem F_Mo_done_7 : fetch m_Mo_done 7 = some (.iconst 1) := by decide +kernel
theorem F_Mo_done_8 : fetch m_Mo_done 8 = some (.isub) := by decide +kernel
theorem F_Mo_done_9 : fetch m_Mo_done 9 = some (.invokestatic 200) := by decide +kernel
theorem F_Mo_done_12 : fetch m_Mo_done 12 = some (.ifCond .eq 7) := by decide +kernel
theorem F_Mo_done_15 : fetch m_Mo_done 15 = some (.iconst 0) := by decide +kernel
theorem F_Mo_done_16 : fetch m_Mo_done 16 = some (.goto 4) := by decide +kernel
theorem F_Mo_done_19 : fetch m_Mo_done 19 = some (.iconst 1) := by decide +kernel
theorem F_Mo_done_20 : fetch m_Mo_done 20 = some (.putfield 178) := by decide +kernel
theorem F_Mo_done_23 : fetch m_Mo_done 23 = some (.aload_n 0) := by decide +kernel
theorem F_Mo_done_24 : fetch m_Mo_done 24 = some (.getfield 178) := by decide +kernel
theorem F_Mo_done_27 : fetch m_Mo_done 27 = some (.ifCond .le 7) := by decide +kernel
theorem F_Mo_done_30 : fetch m_Mo_done 30 = some (.iconst 0) := by decide +kernel
theorem F_Mo_done_31 : fetch m_Mo_done 31 = some (.goto 9) := by decide +kernel
theorem F_Mo_done_34 : fetch m_Mo_done 34 = some (.aload_n 0) := by decide +kernel
theorem F_Mo_done_35 : fetch m_Mo_done 35 = some (.getfield 93) := by decide +kernel
theorem F_Mo_done_38 : fetch m_Mo_done 38 = some (.iload_n 1) := by decide +kernel
theorem F_Mo_done_39 : fetch m_Mo_done 39 = some (.iaload) := by decide +kernel
theorem F_Mo_done_40 : fetch m_Mo_done 40 = some (.ireturn) := by decide +kernel
theorem F_Mo_at_0 : fetch m_Mo_at 0 = some (.aload_n 0) := by decide +kernel
theorem F_Mo_at_1 : fetch m_Mo_at 1 = some (.iconst 0) := by decide +kernel
theorem F_Mo_at_2 : fetch m_Mo_at 2 = some (.putfield 178) := by decide +kernel
theorem F_Mo_at_5 : fetch m_Mo_at 5 = some (.iload_n 1) := by decide +kernel
theorem F_Mo_at_6 : fetch m_Mo_at 6 = some (.iconst 0) := by decide +kernel
theorem F_Mo_at_7 : fetch m_Mo_at 7 = some (.aload_n 0) := by decide +kernel
theorem F_Mo_at_8 : fetch m_Mo_at 8 = some (.getfield 245) := by decide +kernel
theorem F_Mo_at_11 : fetch m_Mo_at 11 = some (.iconst 1) := by decide +kernel
theorem F_Mo_at_12 : fetch m_Mo_at 12 = some (.isub) := by decide +kernel
theorem F_Mo_at_13 : fetch m_Mo_at 13 = some (.invokestatic 200) := by decide +kernel
theorem F_Mo_at_16 : fetch m_Mo_at 16 = some (.ifCond .eq 12) := by decide +kernel
theorem F_Mo_at_19 : fetch m_Mo_at 19 = some (.aload_n 0) := by decide +kernel
theorem F_Mo_at_20 : fetch m_Mo_at 20 = some (.getfield 108) := by decide +kernel
theorem F_Mo_at_23 : fetch m_Mo_at 23 = some (.iload_n 1) := by decide +kernel
theorem F_Mo_at_24 : fetch m_Mo_at 24 = some (.iaload) := by decide +kernel
theorem F_Mo_at_25 : fetch m_Mo_at 25 = some (.goto 4) := by decide +kernel
theorem F_Mo_at_28 : fetch m_Mo_at 28 = some (.iconst (-1)) := by decide +kernel
theorem F_Mo_at_29 : fetch m_Mo_at 29 = some (.ireturn) := by decide +kernel
theorem F_Mo_above_0 : fetch m_Mo_above 0 = some (.aload_n 0) := by decide +kernel
theorem F_Mo_above_1 : fetch m_Mo_above 1 = some (.iload_n 1) := by decide +kernel
theorem F_Mo_above_2 : fetch m_Mo_above 2 = some (.iload_n 2) := by decide +kernel
theorem F_Mo_above_3 : fetch m_Mo_above 3 = some (.iconst 1) := by decide +kernel
theorem F_Mo_above_4 : fetch m_Mo_above 4 = some (.invokevirtual 397) := by decide +kernel
theorem F_Mo_above_7 : fetch m_Mo_above 7 = some (.lreturn) := by decide +kernel
theorem F_Mo_told_0 : fetch m_Mo_told 0 = some (.aload_n 0) := by decide +kernel
theorem F_Mo_told_1 : fetch m_Mo_told 1 = some (.iload_n 1) := by decide +kernel
theorem F_Mo_told_2 : fetch m_Mo_told 2 = some (.iconst 0) := by decide +kernel
theorem F_Mo_told_3 : fetch m_Mo_told 3 = some (.iconst 2) := by decide +kernel
theorem F_Mo_told_4 : fetch m_Mo_told 4 = some (.invokestatic 200) := by decide +kernel
theorem F_Mo_told_7 : fetch m_Mo_told 7 = some (.ifCond .ne 7) := by decide +kernel
theorem F_Mo_told_10 : fetch m_Mo_told 10 = some (.iconst 1) := by decide +kernel
theorem F_Mo_told_11 : fetch m_Mo_told 11 = some (.goto 42) := by decide +kernel
theorem F_Mo_told_14 : fetch m_Mo_told 14 = some (.iload_n 1) := by decide +kernel
theorem F_Mo_told_15 : fetch m_Mo_told 15 = some (.iconst 2) := by decide +kernel
theorem F_Mo_told_16 : fetch m_Mo_told 16 = some (.if_icmp .ne 18) := by decide +kernel
theorem F_Mo_told_19 : fetch m_Mo_told 19 = some (.iload_n 2) := by decide +kernel
theorem F_Mo_told_20 : fetch m_Mo_told 20 = some (.invokestatic 225) := by decide +kernel
theorem F_Mo_told_23 : fetch m_Mo_told 23 = some (.ifCond .eq 7) := by decide +kernel
theorem F_Mo_told_26 : fetch m_Mo_told 26 = some (.iconst 0) := by decide +kernel
theorem F_Mo_told_27 : fetch m_Mo_told 27 = some (.goto 26) := by decide +kernel
theorem F_Mo_told_30 : fetch m_Mo_told 30 = some (.iconst 2) := by decide +kernel
theorem F_Mo_told_31 : fetch m_Mo_told 31 = some (.goto 22) := by decide +kernel
theorem F_Mo_told_34 : fetch m_Mo_told 34 = some (.iload_n 2) := by decide +kernel
theorem F_Mo_told_35 : fetch m_Mo_told 35 = some (.iconst 0) := by decide +kernel
theorem F_Mo_told_36 : fetch m_Mo_told 36 = some (.aload_n 0) := by decide +kernel
theorem F_Mo_told_37 : fetch m_Mo_told 37 = some (.getfield 242) := by decide +kernel
theorem F_Mo_told_40 : fetch m_Mo_told 40 = some (.iconst 1) := by decide +kernel
theorem F_Mo_told_41 : fetch m_Mo_told 41 = some (.isub) := by decide +kernel
theorem F_Mo_told_42 : fetch m_Mo_told 42 = some (.invokestatic 200) := by decide +kernel
theorem F_Mo_told_45 : fetch m_Mo_told 45 = some (.ifCond .eq 7) := by decide +kernel
theorem F_Mo_told_48 : fetch m_Mo_told 48 = some (.iconst 0) := by decide +kernel
theorem F_Mo_told_49 : fetch m_Mo_told 49 = some (.goto 4) := by decide +kernel
theorem F_Mo_told_52 : fetch m_Mo_told 52 = some (.iconst 2) := by decide +kernel
theorem F_Mo_told_53 : fetch m_Mo_told 53 = some (.putfield 178) := by decide +kernel
theorem F_Mo_told_56 : fetch m_Mo_told 56 = some (.aload_n 0) := by decide +kernel
theorem F_Mo_told_57 : fetch m_Mo_told 57 = some (.getfield 178) := by decide +kernel
theorem F_Mo_told_60 : fetch m_Mo_told 60 = some (.ifCond .le 5) := by decide +kernel
theorem F_Mo_told_63 : fetch m_Mo_told 63 = some (.lconst 0) := by decide +kernel
theorem F_Mo_told_64 : fetch m_Mo_told 64 = some (.lreturn) := by decide +kernel
theorem F_Mo_told_65 : fetch m_Mo_told 65 = some (.iload_n 1) := by decide +kernel
theorem F_Mo_told_66 : fetch m_Mo_told 66 = some (.ifCond .ne 23) := by decide +kernel
theorem F_Mo_told_69 : fetch m_Mo_told 69 = some (.iload_n 3) := by decide +kernel
theorem F_Mo_told_70 : fetch m_Mo_told 70 = some (.ifCond .eq 12) := by decide +kernel
theorem F_Mo_told_73 : fetch m_Mo_told 73 = some (.aload_n 0) := by decide +kernel
theorem F_Mo_told_74 : fetch m_Mo_told 74 = some (.getfield 96) := by decide +kernel
theorem F_Mo_told_77 : fetch m_Mo_told 77 = some (.iload_n 2) := by decide +kernel
theorem F_Mo_told_78 : fetch m_Mo_told 78 = some (.laload) := by decide +kernel
theorem F_Mo_told_79 : fetch m_Mo_told 79 = some (.goto 9) := by decide +kernel
theorem F_Mo_told_82 : fetch m_Mo_told 82 = some (.aload_n 0) := by decide +kernel
theorem F_Mo_told_83 : fetch m_Mo_told 83 = some (.getfield 99) := by decide +kernel
theorem F_Mo_told_86 : fetch m_Mo_told 86 = some (.iload_n 2) := by decide +kernel
theorem F_Mo_told_87 : fetch m_Mo_told 87 = some (.laload) := by decide +kernel
theorem F_Mo_told_88 : fetch m_Mo_told 88 = some (.lreturn) := by decide +kernel
theorem F_Mo_told_89 : fetch m_Mo_told 89 = some (.iload_n 1) := by decide +kernel
theorem F_Mo_told_90 : fetch m_Mo_told 90 = some (.iconst 1) := by decide +kernel
theorem F_Mo_told_91 : fetch m_Mo_told 91 = some (.if_icmp .ne 23) := by decide +kernel
theorem F_Mo_told_94 : fetch m_Mo_told 94 = some (.iload_n 3) := by decide +kernel
theorem F_Mo_told_95 : fetch m_Mo_told 95 = some (.ifCond .eq 12) := by decide +kernel
theorem F_Mo_told_98 : fetch m_Mo_told 98 = some (.aload_n 0) := by decide +kernel
theorem F_Mo_told_99 : fetch m_Mo_told 99 = some (.getfield 102) := by decide +kernel
theorem F_Mo_told_102 : fetch m_Mo_told 102 = some (.iload_n 2) := by decide +kernel
theorem F_Mo_told_103 : fetch m_Mo_told 103 = some (.laload) := by decide +kernel
theorem F_Mo_told_104 : fetch m_Mo_told 104 = some (.goto 9) := by decide +kernel
theorem F_Mo_told_107 : fetch m_Mo_told 107 = some (.aload_n 0) := by decide +kernel
theorem F_Mo_told_108 : fetch m_Mo_told 108 = some (.getfield 105) := by decide +kernel
theorem F_Mo_told_111 : fetch m_Mo_told 111 = some (.iload_n 2) := by decide +kernel
theorem F_Mo_told_112 : fetch m_Mo_told 112 = some (.laload) := by decide +kernel
theorem F_Mo_told_113 : fetch m_Mo_told 113 = some (.lreturn) := by decide +kernel
theorem F_Mo_told_114 : fetch m_Mo_told 114 = some (.aload_n 0) := by decide +kernel
theorem F_Mo_told_115 : fetch m_Mo_told 115 = some (.getfield 320) := by decide +kernel
theorem F_Mo_told_118 : fetch m_Mo_told 118 = some (.ifCond .ne 23) := by decide +kernel
theorem F_Mo_told_121 : fetch m_Mo_told 121 = some (.iload_n 3) := by decide +kernel
theorem F_Mo_told_122 : fetch m_Mo_told 122 = some (.ifCond .eq 12) := by decide +kernel
theorem F_Mo_told_125 : fetch m_Mo_told 125 = some (.aload_n 0) := by decide +kernel
theorem F_Mo_told_126 : fetch m_Mo_told 126 = some (.getfield 28) := by decide +kernel
theorem F_Mo_told_129 : fetch m_Mo_told 129 = some (.iload_n 2) := by decide +kernel
theorem F_Mo_told_130 : fetch m_Mo_told 130 = some (.laload) := by decide +kernel
theorem F_Mo_told_131 : fetch m_Mo_told 131 = some (.goto 9) := by decide +kernel
theorem F_Mo_told_134 : fetch m_Mo_told 134 = some (.aload_n 0) := by decide +kernel
theorem F_Mo_told_135 : fetch m_Mo_told 135 = some (.getfield 32) := by decide +kernel
theorem F_Mo_told_138 : fetch m_Mo_told 138 = some (.iload_n 2) := by decide +kernel
theorem F_Mo_told_139 : fetch m_Mo_told 139 = some (.laload) := by decide +kernel
theorem F_Mo_told_140 : fetch m_Mo_told 140 = some (.lreturn) := by decide +kernel
theorem F_Mo_told_141 : fetch m_Mo_told 141 = some (.iload_n 3) := by decide +kernel
theorem F_Mo_told_142 : fetch m_Mo_told 142 = some (.ifCond .eq 12) := by decide +kernel
theorem F_Mo_told_145 : fetch m_Mo_told 145 = some (.aload_n 0) := by decide +kernel
theorem F_Mo_told_146 : fetch m_Mo_told 146 = some (.getfield 145) := by decide +kernel
theorem F_Mo_told_149 : fetch m_Mo_told 149 = some (.iload_n 2) := by decide +kernel
theorem F_Mo_told_150 : fetch m_Mo_told 150 = some (.laload) := by decide +kernel
theorem F_Mo_told_151 : fetch m_Mo_told 151 = some (.goto 9) := by decide +kernel
theorem F_Mo_told_154 : fetch m_Mo_told 154 = some (.aload_n 0) := by decide +kernel
theorem F_Mo_told_155 : fetch m_Mo_told 155 = some (.getfield 148) := by decide +kernel
theorem F_Mo_told_158 : fetch m_Mo_told 158 = some (.iload_n 2) := by decide +kernel
theorem F_Mo_told_159 : fetch m_Mo_told 159 = some (.laload) := by decide +kernel
theorem F_Mo_told_160 : fetch m_Mo_told 160 = some (.lreturn) := by decide +kernel
theorem F_Mo_below_0 : fetch m_Mo_below 0 = some (.aload_n 0) := by decide +kernel
theorem F_Mo_below_1 : fetch m_Mo_below 1 = some (.iload_n 1) := by decide +kernel
theorem F_Mo_below_2 : fetch m_Mo_below 2 = some (.iload_n 2) := by decide +kernel
theorem F_Mo_below_3 : fetch m_Mo_below 3 = some (.iconst 0) := by decide +kernel
theorem F_Mo_below_4 : fetch m_Mo_below 4 = some (.invokevirtual 397) := by decide +kernel
theorem F_Mo_below_7 : fetch m_Mo_below 7 = some (.lreturn) := by decide +kernel
theorem F_Mo_holds_0 : fetch m_Mo_holds 0 = some (.aload_n 0) := by decide +kernel
theorem F_Mo_holds_1 : fetch m_Mo_holds 1 = some (.iload_n 1) := by decide +kernel
theorem F_Mo_holds_2 : fetch m_Mo_holds 2 = some (.invokestatic 221) := by decide +kernel
theorem F_Mo_holds_5 : fetch m_Mo_holds 5 = some (.ifCond .eq 7) := by decide +kernel
theorem F_Mo_holds_8 : fetch m_Mo_holds 8 = some (.iconst 0) := by decide +kernel
theorem F_Mo_holds_9 : fetch m_Mo_holds 9 = some (.goto 4) := by decide +kernel
theorem F_Mo_holds_12 : fetch m_Mo_holds 12 = some (.iconst 1) := by decide +kernel
theorem F_Mo_holds_13 : fetch m_Mo_holds 13 = some (.putfield 178) := by decide +kernel
theorem F_Mo_holds_16 : fetch m_Mo_holds 16 = some (.aload_n 0) := by decide +kernel
theorem F_Mo_holds_17 : fetch m_Mo_holds 17 = some (.getfield 178) := by decide +kernel
theorem F_Mo_holds_20 : fetch m_Mo_holds 20 = some (.ifCond .le 5) := by decide +kernel
theorem F_Mo_holds_23 : fetch m_Mo_holds 23 = some (.iconst 0) := by decide +kernel
theorem F_Mo_holds_24 : fetch m_Mo_holds 24 = some (.ireturn) := by decide +kernel
theorem F_Mo_holds_25 : fetch m_Mo_holds 25 = some (.aload_n 0) := by decide +kernel
theorem F_Mo_holds_26 : fetch m_Mo_holds 26 = some (.getfield 320) := by decide +kernel
theorem F_Mo_holds_29 : fetch m_Mo_holds 29 = some (.ifCond .eq 12) := by decide +kernel
theorem F_Mo_holds_32 : fetch m_Mo_holds 32 = some (.aload_n 0) := by decide +kernel
theorem F_Mo_holds_33 : fetch m_Mo_holds 33 = some (.getfield 142) := by decide +kernel
theorem F_Mo_holds_36 : fetch m_Mo_holds 36 = some (.iload_n 1) := by decide +kernel
theorem F_Mo_holds_37 : fetch m_Mo_holds 37 = some (.baload) := by decide +kernel
theorem F_Mo_holds_38 : fetch m_Mo_holds 38 = some (.goto 9) := by decide +kernel
theorem F_Mo_holds_41 : fetch m_Mo_holds 41 = some (.aload_n 0) := by decide +kernel
theorem F_Mo_holds_42 : fetch m_Mo_holds 42 = some (.getfield 24) := by decide +kernel
theorem F_Mo_holds_45 : fetch m_Mo_holds 45 = some (.iload_n 1) := by decide +kernel
theorem F_Mo_holds_46 : fetch m_Mo_holds 46 = some (.baload) := by decide +kernel
theorem F_Mo_holds_47 : fetch m_Mo_holds 47 = some (.ireturn) := by decide +kernel
