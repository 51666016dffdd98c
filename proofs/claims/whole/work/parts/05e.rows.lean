set_option maxRecDepth 20000 in
theorem ggX6_init_X6_word : GoodIn wsX6_init wsX6_word := goodIn_r _ [54, 55, 56, 53, 57, 58] (by decide +kernel) (by decide +kernel)
set_option maxRecDepth 20000 in
theorem gX6_init_X6_word : GoodIn wsX6_init (va_wsS RX6 146 yX6_word wsX6_word) := goodIn_app (goodIn_of _ (by decide +kernel)) ggX6_init_X6_word
theorem dX6_init_0 : decode cX6_init 0 = .ok (.aload_n 0, 1) := by decide +kernel
theorem dX6_init_1 : decode cX6_init 1 = .ok (.invokespecial 7, 3) := by decide +kernel
theorem dX6_init_4 : decode cX6_init 4 = .ok (.aload_n 0, 1) := by decide +kernel
theorem dX6_init_5 : decode cX6_init 5 = .ok (.sipush 2000, 3) := by decide +kernel
theorem dX6_init_8 : decode cX6_init 8 = .ok (.newarray .byte, 2) := by decide +kernel
theorem dX6_init_10 : decode cX6_init 10 = .ok (.putfield 13, 3) := by decide +kernel
theorem dX6_init_13 : decode cX6_init 13 = .ok (.aload_n 0, 1) := by decide +kernel
theorem dX6_init_14 : decode cX6_init 14 = .ok (.sipush 2000, 3) := by decide +kernel
theorem dX6_init_17 : decode cX6_init 17 = .ok (.newarray .byte, 2) := by decide +kernel
theorem dX6_init_19 : decode cX6_init 19 = .ok (.putfield 17, 3) := by decide +kernel
theorem dX6_init_22 : decode cX6_init 22 = .ok (.aload_n 0, 1) := by decide +kernel
theorem dX6_init_23 : decode cX6_init 23 = .ok (.sipush 403, 3) := by decide +kernel
theorem dX6_init_26 : decode cX6_init 26 = .ok (.newarray .int, 2) := by decide +kernel
theorem dX6_init_28 : decode cX6_init 28 = .ok (.putfield 20, 3) := by decide +kernel
theorem dX6_init_31 : decode cX6_init 31 = .ok (.aload_n 0, 1) := by decide +kernel
theorem dX6_init_32 : decode cX6_init 32 = .ok (.sipush 403, 3) := by decide +kernel
theorem dX6_init_35 : decode cX6_init 35 = .ok (.newarray .int, 2) := by decide +kernel
theorem dX6_init_37 : decode cX6_init 37 = .ok (.putfield 24, 3) := by decide +kernel
theorem dX6_init_40 : decode cX6_init 40 = .ok (.aload_n 0, 1) := by decide +kernel
theorem dX6_init_41 : decode cX6_init 41 = .ok (.sipush 403, 3) := by decide +kernel
theorem dX6_init_44 : decode cX6_init 44 = .ok (.newarray .int, 2) := by decide +kernel
theorem dX6_init_46 : decode cX6_init 46 = .ok (.putfield 27, 3) := by decide +kernel
theorem dX6_init_49 : decode cX6_init 49 = .ok (.aload_n 0, 1) := by decide +kernel
theorem dX6_init_50 : decode cX6_init 50 = .ok (.sipush 403, 3) := by decide +kernel
theorem dX6_init_53 : decode cX6_init 53 = .ok (.newarray .long, 2) := by decide +kernel
theorem dX6_init_55 : decode cX6_init 55 = .ok (.putfield 30, 3) := by decide +kernel
theorem dX6_init_58 : decode cX6_init 58 = .ok (.aload_n 0, 1) := by decide +kernel
theorem dX6_init_59 : decode cX6_init 59 = .ok (.bipush 14, 2) := by decide +kernel
theorem dX6_init_61 : decode cX6_init 61 = .ok (.newarray .long, 2) := by decide +kernel
theorem dX6_init_63 : decode cX6_init 63 = .ok (.putfield 34, 3) := by decide +kernel
theorem dX6_init_66 : decode cX6_init 66 = .ok (.aload_n 0, 1) := by decide +kernel
theorem dX6_init_67 : decode cX6_init 67 = .ok (.iconst (-1), 1) := by decide +kernel
theorem dX6_init_68 : decode cX6_init 68 = .ok (.putfield 37, 3) := by decide +kernel
theorem dX6_init_71 : decode cX6_init 71 = .ok (.aload_n 0, 1) := by decide +kernel
theorem dX6_init_72 : decode cX6_init 72 = .ok (.bipush 6, 2) := by decide +kernel
theorem dX6_init_74 : decode cX6_init 74 = .ok (.newarray .int, 2) := by decide +kernel
theorem dX6_init_76 : decode cX6_init 76 = .ok (.putfield 40, 3) := by decide +kernel
theorem dX6_init_79 : decode cX6_init 79 = .ok (.aload_n 0, 1) := by decide +kernel
theorem dX6_init_80 : decode cX6_init 80 = .ok (.bipush 12, 2) := by decide +kernel
theorem dX6_init_82 : decode cX6_init 82 = .ok (.newarray .int, 2) := by decide +kernel
theorem dX6_init_84 : decode cX6_init 84 = .ok (.putfield 43, 3) := by decide +kernel
theorem dX6_init_87 : decode cX6_init 87 = .ok (.aload_n 0, 1) := by decide +kernel
theorem dX6_init_88 : decode cX6_init 88 = .ok (.sipush 144, 3) := by decide +kernel
theorem dX6_init_91 : decode cX6_init 91 = .ok (.newarray .int, 2) := by decide +kernel
theorem dX6_init_93 : decode cX6_init 93 = .ok (.putfield 46, 3) := by decide +kernel
theorem dX6_init_96 : decode cX6_init 96 = .ok (.aload_n 0, 1) := by decide +kernel
theorem dX6_init_97 : decode cX6_init 97 = .ok (.sipush 144, 3) := by decide +kernel
theorem dX6_init_100 : decode cX6_init 100 = .ok (.newarray .int, 2) := by decide +kernel
theorem dX6_init_102 : decode cX6_init 102 = .ok (.putfield 49, 3) := by decide +kernel
theorem dX6_init_105 : decode cX6_init 105 = .ok (.aload_n 0, 1) := by decide +kernel
theorem dX6_init_106 : decode cX6_init 106 = .ok (.sipush 144, 3) := by decide +kernel
theorem dX6_init_109 : decode cX6_init 109 = .ok (.newarray .int, 2) := by decide +kernel
theorem dX6_init_111 : decode cX6_init 111 = .ok (.putfield 52, 3) := by decide +kernel
theorem dX6_init_114 : decode cX6_init 114 = .ok (.aload_n 0, 1) := by decide +kernel
theorem dX6_init_115 : decode cX6_init 115 = .ok (.bipush 12, 2) := by decide +kernel
theorem dX6_init_117 : decode cX6_init 117 = .ok (.newarray .int, 2) := by decide +kernel
theorem dX6_init_119 : decode cX6_init 119 = .ok (.putfield 55, 3) := by decide +kernel
theorem dX6_init_122 : decode cX6_init 122 = .ok (.aload_n 0, 1) := by decide +kernel
theorem dX6_init_123 : decode cX6_init 123 = .ok (.sipush 2400, 3) := by decide +kernel
theorem dX6_init_126 : decode cX6_init 126 = .ok (.newarray .int, 2) := by decide +kernel
theorem dX6_init_128 : decode cX6_init 128 = .ok (.putfield 58, 3) := by decide +kernel
theorem dX6_init_131 : decode cX6_init 131 = .ok (.aload_n 0, 1) := by decide +kernel
theorem dX6_init_132 : decode cX6_init 132 = .ok (.sipush 2400, 3) := by decide +kernel
theorem dX6_init_135 : decode cX6_init 135 = .ok (.newarray .int, 2) := by decide +kernel
theorem dX6_init_137 : decode cX6_init 137 = .ok (.putfield 61, 3) := by decide +kernel
theorem dX6_init_140 : decode cX6_init 140 = .ok (.aload_n 0, 1) := by decide +kernel
theorem dX6_init_141 : decode cX6_init 141 = .ok (.sipush 2400, 3) := by decide +kernel
theorem dX6_init_144 : decode cX6_init 144 = .ok (.newarray .int, 2) := by decide +kernel
theorem dX6_init_146 : decode cX6_init 146 = .ok (.putfield 64, 3) := by decide +kernel
theorem dX6_init_149 : decode cX6_init 149 = .ok (.aload_n 0, 1) := by decide +kernel
theorem dX6_init_150 : decode cX6_init 150 = .ok (.sipush 2400, 3) := by decide +kernel
theorem dX6_init_153 : decode cX6_init 153 = .ok (.newarray .int, 2) := by decide +kernel
theorem dX6_init_155 : decode cX6_init 155 = .ok (.putfield 67, 3) := by decide +kernel
theorem dX6_init_158 : decode cX6_init 158 = .ok (.aload_n 0, 1) := by decide +kernel
theorem dX6_init_159 : decode cX6_init 159 = .ok (.sipush 2400, 3) := by decide +kernel
theorem dX6_init_162 : decode cX6_init 162 = .ok (.newarray .boolean, 2) := by decide +kernel
theorem dX6_init_164 : decode cX6_init 164 = .ok (.putfield 70, 3) := by decide +kernel
theorem dX6_init_167 : decode cX6_init 167 = .ok (.aload_n 0, 1) := by decide +kernel
theorem dX6_init_168 : decode cX6_init 168 = .ok (.sipush 6000, 3) := by decide +kernel
theorem dX6_init_171 : decode cX6_init 171 = .ok (.newarray .int, 2) := by decide +kernel
theorem dX6_init_173 : decode cX6_init 173 = .ok (.putfield 74, 3) := by decide +kernel
theorem dX6_init_176 : decode cX6_init 176 = .ok (.aload_n 0, 1) := by decide +kernel
theorem dX6_init_177 : decode cX6_init 177 = .ok (.sipush 6000, 3) := by decide +kernel
theorem dX6_init_180 : decode cX6_init 180 = .ok (.newarray .int, 2) := by decide +kernel
theorem dX6_init_182 : decode cX6_init 182 = .ok (.putfield 77, 3) := by decide +kernel
theorem dX6_init_185 : decode cX6_init 185 = .ok (.aload_n 0, 1) := by decide +kernel
theorem dX6_init_186 : decode cX6_init 186 = .ok (.bipush 48, 2) := by decide +kernel
theorem dX6_init_188 : decode cX6_init 188 = .ok (.newarray .int, 2) := by decide +kernel
theorem dX6_init_190 : decode cX6_init 190 = .ok (.putfield 80, 3) := by decide +kernel
theorem dX6_init_193 : decode cX6_init 193 = .ok (.aload_n 0, 1) := by decide +kernel
theorem dX6_init_194 : decode cX6_init 194 = .ok (.bipush 14, 2) := by decide +kernel
theorem dX6_init_196 : decode cX6_init 196 = .ok (.newarray .int, 2) := by decide +kernel
theorem dX6_init_198 : decode cX6_init 198 = .ok (.putfield 83, 3) := by decide +kernel
theorem dX6_init_201 : decode cX6_init 201 = .ok (.aload_n 0, 1) := by decide +kernel
theorem dX6_init_202 : decode cX6_init 202 = .ok (.bipush 6, 2) := by decide +kernel
theorem dX6_init_204 : decode cX6_init 204 = .ok (.newarray .int, 2) := by decide +kernel
theorem dX6_init_206 : decode cX6_init 206 = .ok (.putfield 86, 3) := by decide +kernel
theorem dX6_init_209 : decode cX6_init 209 = .ok (.aload_n 0, 1) := by decide +kernel
theorem dX6_init_210 : decode cX6_init 210 = .ok (.bipush 6, 2) := by decide +kernel
theorem dX6_init_212 : decode cX6_init 212 = .ok (.newarray .int, 2) := by decide +kernel
theorem dX6_init_214 : decode cX6_init 214 = .ok (.putfield 89, 3) := by decide +kernel
theorem dX6_init_217 : decode cX6_init 217 = .ok (.aload_n 0, 1) := by decide +kernel
theorem dX6_init_218 : decode cX6_init 218 = .ok (.bipush 6, 2) := by decide +kernel
theorem dX6_init_220 : decode cX6_init 220 = .ok (.newarray .int, 2) := by decide +kernel
theorem dX6_init_222 : decode cX6_init 222 = .ok (.putfield 92, 3) := by decide +kernel
theorem dX6_init_225 : decode cX6_init 225 = .ok (.aload_n 0, 1) := by decide +kernel
theorem dX6_init_226 : decode cX6_init 226 = .ok (.sipush 360, 3) := by decide +kernel
theorem dX6_init_229 : decode cX6_init 229 = .ok (.newarray .int, 2) := by decide +kernel
theorem dX6_init_231 : decode cX6_init 231 = .ok (.putfield 95, 3) := by decide +kernel
theorem dX6_init_234 : decode cX6_init 234 = .ok (.aload_n 0, 1) := by decide +kernel
theorem dX6_init_235 : decode cX6_init 235 = .ok (.bipush 36, 2) := by decide +kernel
theorem dX6_init_237 : decode cX6_init 237 = .ok (.newarray .int, 2) := by decide +kernel
theorem dX6_init_239 : decode cX6_init 239 = .ok (.putfield 98, 3) := by decide +kernel
theorem dX6_init_242 : decode cX6_init 242 = .ok (.aload_n 0, 1) := by decide +kernel
theorem dX6_init_243 : decode cX6_init 243 = .ok (.bipush 12, 2) := by decide +kernel
theorem dX6_init_245 : decode cX6_init 245 = .ok (.newarray .int, 2) := by decide +kernel
theorem dX6_init_247 : decode cX6_init 247 = .ok (.putfield 101, 3) := by decide +kernel
theorem dX6_init_250 : decode cX6_init 250 = .ok (.aload_n 0, 1) := by decide +kernel
theorem dX6_init_251 : decode cX6_init 251 = .ok (.sipush 300, 3) := by decide +kernel
theorem dX6_init_254 : decode cX6_init 254 = .ok (.newarray .boolean, 2) := by decide +kernel
theorem dX6_init_256 : decode cX6_init 256 = .ok (.putfield 104, 3) := by decide +kernel
theorem dX6_init_259 : decode cX6_init 259 = .ok (.aload_n 0, 1) := by decide +kernel
theorem dX6_init_260 : decode cX6_init 260 = .ok (.sipush 300, 3) := by decide +kernel
theorem dX6_init_263 : decode cX6_init 263 = .ok (.newarray .int, 2) := by decide +kernel
theorem dX6_init_265 : decode cX6_init 265 = .ok (.putfield 107, 3) := by decide +kernel
theorem dX6_init_268 : decode cX6_init 268 = .ok (.aload_n 0, 1) := by decide +kernel
theorem dX6_init_269 : decode cX6_init 269 = .ok (.sipush 300, 3) := by decide +kernel
theorem dX6_init_272 : decode cX6_init 272 = .ok (.newarray .int, 2) := by decide +kernel
theorem dX6_init_274 : decode cX6_init 274 = .ok (.putfield 110, 3) := by decide +kernel
theorem dX6_init_277 : decode cX6_init 277 = .ok (.aload_n 0, 1) := by decide +kernel
theorem dX6_init_278 : decode cX6_init 278 = .ok (.iconst (-1), 1) := by decide +kernel
theorem dX6_init_279 : decode cX6_init 279 = .ok (.putfield 113, 3) := by decide +kernel
theorem dX6_init_282 : decode cX6_init 282 = .ok (.aload_n 0, 1) := by decide +kernel
theorem dX6_init_283 : decode cX6_init 283 = .ok (.bipush 6, 2) := by decide +kernel
theorem dX6_init_285 : decode cX6_init 285 = .ok (.newarray .int, 2) := by decide +kernel
theorem dX6_init_287 : decode cX6_init 287 = .ok (.putfield 116, 3) := by decide +kernel
theorem dX6_init_290 : decode cX6_init 290 = .ok (.aload_n 0, 1) := by decide +kernel
theorem dX6_init_291 : decode cX6_init 291 = .ok (.bipush 96, 2) := by decide +kernel
theorem dX6_init_293 : decode cX6_init 293 = .ok (.newarray .int, 2) := by decide +kernel
theorem dX6_init_295 : decode cX6_init 295 = .ok (.putfield 119, 3) := by decide +kernel
theorem dX6_init_298 : decode cX6_init 298 = .ok (.aload_n 0, 1) := by decide +kernel
theorem dX6_init_299 : decode cX6_init 299 = .ok (.bipush 96, 2) := by decide +kernel
theorem dX6_init_301 : decode cX6_init 301 = .ok (.newarray .int, 2) := by decide +kernel
theorem dX6_init_303 : decode cX6_init 303 = .ok (.putfield 122, 3) := by decide +kernel
theorem dX6_init_306 : decode cX6_init 306 = .ok (.aload_n 0, 1) := by decide +kernel
theorem dX6_init_307 : decode cX6_init 307 = .ok (.bipush 96, 2) := by decide +kernel
theorem dX6_init_309 : decode cX6_init 309 = .ok (.newarray .int, 2) := by decide +kernel
theorem dX6_init_311 : decode cX6_init 311 = .ok (.putfield 125, 3) := by decide +kernel
theorem dX6_init_314 : decode cX6_init 314 = .ok (.aload_n 0, 1) := by decide +kernel
theorem dX6_init_315 : decode cX6_init 315 = .ok (.bipush 96, 2) := by decide +kernel
theorem dX6_init_317 : decode cX6_init 317 = .ok (.newarray .int, 2) := by decide +kernel
theorem dX6_init_319 : decode cX6_init 319 = .ok (.putfield 128, 3) := by decide +kernel
theorem dX6_init_322 : decode cX6_init 322 = .ok (.aload_n 0, 1) := by decide +kernel
theorem dX6_init_323 : decode cX6_init 323 = .ok (.bipush 96, 2) := by decide +kernel
theorem dX6_init_325 : decode cX6_init 325 = .ok (.newarray .boolean, 2) := by decide +kernel
theorem dX6_init_327 : decode cX6_init 327 = .ok (.putfield 131, 3) := by decide +kernel
theorem dX6_init_330 : decode cX6_init 330 = .ok (.aload_n 0, 1) := by decide +kernel
theorem dX6_init_331 : decode cX6_init 331 = .ok (.bipush 8, 2) := by decide +kernel
theorem dX6_init_333 : decode cX6_init 333 = .ok (.newarray .int, 2) := by decide +kernel
theorem dX6_init_335 : decode cX6_init 335 = .ok (.putfield 134, 3) := by decide +kernel
theorem dX6_init_338 : decode cX6_init 338 = .ok (.aload_n 0, 1) := by decide +kernel
theorem dX6_init_339 : decode cX6_init 339 = .ok (.sipush 500, 3) := by decide +kernel
theorem dX6_init_342 : decode cX6_init 342 = .ok (.newarray .int, 2) := by decide +kernel
theorem dX6_init_344 : decode cX6_init 344 = .ok (.putfield 137, 3) := by decide +kernel
theorem dX6_init_347 : decode cX6_init 347 = .ok (.aload_n 0, 1) := by decide +kernel
theorem dX6_init_348 : decode cX6_init 348 = .ok (.bipush 12, 2) := by decide +kernel
theorem dX6_init_350 : decode cX6_init 350 = .ok (.newarray .boolean, 2) := by decide +kernel
theorem dX6_init_352 : decode cX6_init 352 = .ok (.putfield 140, 3) := by decide +kernel
theorem dX6_init_355 : decode cX6_init 355 = .ok (.aload_n 0, 1) := by decide +kernel
theorem dX6_init_356 : decode cX6_init 356 = .ok (.bipush 16, 2) := by decide +kernel
theorem dX6_init_358 : decode cX6_init 358 = .ok (.newarray .int, 2) := by decide +kernel
theorem dX6_init_360 : decode cX6_init 360 = .ok (.putfield 143, 3) := by decide +kernel
theorem dX6_init_363 : decode cX6_init 363 = .ok (.aload_n 0, 1) := by decide +kernel
theorem dX6_init_364 : decode cX6_init 364 = .ok (.getfield 34, 3) := by decide +kernel
theorem dX6_init_367 : decode cX6_init 367 = .ok (.iconst 0, 1) := by decide +kernel
theorem dX6_init_368 : decode cX6_init 368 = .ok (.bipush 98, 2) := by decide +kernel
theorem dX6_init_370 : decode cX6_init 370 = .ok (.bipush 101, 2) := by decide +kernel
theorem dX6_init_372 : decode cX6_init 372 = .ok (.bipush 103, 2) := by decide +kernel
theorem dX6_init_374 : decode cX6_init 374 = .ok (.bipush 105, 2) := by decide +kernel
theorem dX6_init_376 : decode cX6_init 376 = .ok (.bipush 110, 2) := by decide +kernel
theorem dX6_init_378 : decode cX6_init 378 = .ok (.iconst 0, 1) := by decide +kernel
theorem dX6_init_379 : decode cX6_init 379 = .ok (.iconst 0, 1) := by decide +kernel
theorem dX6_init_380 : decode cX6_init 380 = .ok (.invokestatic 146, 3) := by decide +kernel
theorem dX6_init_383 : decode cX6_init 383 = .ok (.lastore, 1) := by decide +kernel
theorem dX6_init_384 : decode cX6_init 384 = .ok (.aload_n 0, 1) := by decide +kernel
theorem dX6_init_385 : decode cX6_init 385 = .ok (.getfield 34, 3) := by decide +kernel
theorem dX6_init_388 : decode cX6_init 388 = .ok (.iconst 1, 1) := by decide +kernel
theorem dX6_init_389 : decode cX6_init 389 = .ok (.bipush 110, 2) := by decide +kernel
theorem dX6_init_391 : decode cX6_init 391 = .ok (.bipush 111, 2) := by decide +kernel
theorem dX6_init_393 : decode cX6_init 393 = .ok (.bipush 116, 2) := by decide +kernel
theorem dX6_init_395 : decode cX6_init 395 = .ok (.iconst 0, 1) := by decide +kernel
theorem dX6_init_396 : decode cX6_init 396 = .ok (.iconst 0, 1) := by decide +kernel
theorem dX6_init_397 : decode cX6_init 397 = .ok (.iconst 0, 1) := by decide +kernel
theorem dX6_init_398 : decode cX6_init 398 = .ok (.iconst 0, 1) := by decide +kernel
theorem dX6_init_399 : decode cX6_init 399 = .ok (.invokestatic 146, 3) := by decide +kernel
theorem dX6_init_402 : decode cX6_init 402 = .ok (.lastore, 1) := by decide +kernel
theorem dX6_init_403 : decode cX6_init 403 = .ok (.aload_n 0, 1) := by decide +kernel
theorem dX6_init_404 : decode cX6_init 404 = .ok (.getfield 34, 3) := by decide +kernel
theorem dX6_init_407 : decode cX6_init 407 = .ok (.iconst 2, 1) := by decide +kernel
theorem dX6_init_408 : decode cX6_init 408 = .ok (.bipush 98, 2) := by decide +kernel
theorem dX6_init_410 : decode cX6_init 410 = .ok (.bipush 97, 2) := by decide +kernel
theorem dX6_init_412 : decode cX6_init 412 = .ok (.bipush 99, 2) := by decide +kernel
theorem dX6_init_414 : decode cX6_init 414 = .ok (.bipush 107, 2) := by decide +kernel
theorem dX6_init_416 : decode cX6_init 416 = .ok (.iconst 0, 1) := by decide +kernel
theorem dX6_init_417 : decode cX6_init 417 = .ok (.iconst 0, 1) := by decide +kernel
theorem dX6_init_418 : decode cX6_init 418 = .ok (.iconst 0, 1) := by decide +kernel
theorem dX6_init_419 : decode cX6_init 419 = .ok (.invokestatic 146, 3) := by decide +kernel
theorem dX6_init_422 : decode cX6_init 422 = .ok (.lastore, 1) := by decide +kernel
theorem dX6_init_423 : decode cX6_init 423 = .ok (.aload_n 0, 1) := by decide +kernel
theorem dX6_init_424 : decode cX6_init 424 = .ok (.getfield 34, 3) := by decide +kernel
theorem dX6_init_427 : decode cX6_init 427 = .ok (.iconst 3, 1) := by decide +kernel
theorem dX6_init_428 : decode cX6_init 428 = .ok (.bipush 105, 2) := by decide +kernel
theorem dX6_init_430 : decode cX6_init 430 = .ok (.bipush 102, 2) := by decide +kernel
theorem dX6_init_432 : decode cX6_init 432 = .ok (.iconst 0, 1) := by decide +kernel
theorem dX6_init_433 : decode cX6_init 433 = .ok (.iconst 0, 1) := by decide +kernel
theorem dX6_init_434 : decode cX6_init 434 = .ok (.iconst 0, 1) := by decide +kernel
theorem dX6_init_435 : decode cX6_init 435 = .ok (.iconst 0, 1) := by decide +kernel
theorem dX6_init_436 : decode cX6_init 436 = .ok (.iconst 0, 1) := by decide +kernel
theorem dX6_init_437 : decode cX6_init 437 = .ok (.invokestatic 146, 3) := by decide +kernel
theorem dX6_init_440 : decode cX6_init 440 = .ok (.lastore, 1) := by decide +kernel
theorem dX6_init_441 : decode cX6_init 441 = .ok (.aload_n 0, 1) := by decide +kernel
theorem dX6_init_442 : decode cX6_init 442 = .ok (.getfield 34, 3) := by decide +kernel
theorem dX6_init_445 : decode cX6_init 445 = .ok (.iconst 4, 1) := by decide +kernel
theorem dX6_init_446 : decode cX6_init 446 = .ok (.bipush 111, 2) := by decide +kernel
theorem dX6_init_448 : decode cX6_init 448 = .ok (.bipush 114, 2) := by decide +kernel
theorem dX6_init_450 : decode cX6_init 450 = .ok (.iconst 0, 1) := by decide +kernel
theorem dX6_init_451 : decode cX6_init 451 = .ok (.iconst 0, 1) := by decide +kernel
theorem dX6_init_452 : decode cX6_init 452 = .ok (.iconst 0, 1) := by decide +kernel
theorem dX6_init_453 : decode cX6_init 453 = .ok (.iconst 0, 1) := by decide +kernel
theorem dX6_init_454 : decode cX6_init 454 = .ok (.iconst 0, 1) := by decide +kernel
theorem dX6_init_455 : decode cX6_init 455 = .ok (.invokestatic 146, 3) := by decide +kernel
theorem dX6_init_458 : decode cX6_init 458 = .ok (.lastore, 1) := by decide +kernel
theorem dX6_init_459 : decode cX6_init 459 = .ok (.aload_n 0, 1) := by decide +kernel
theorem dX6_init_460 : decode cX6_init 460 = .ok (.getfield 34, 3) := by decide +kernel
theorem dX6_init_463 : decode cX6_init 463 = .ok (.iconst 5, 1) := by decide +kernel
theorem dX6_init_464 : decode cX6_init 464 = .ok (.bipush 97, 2) := by decide +kernel
theorem dX6_init_466 : decode cX6_init 466 = .ok (.bipush 110, 2) := by decide +kernel
theorem dX6_init_468 : decode cX6_init 468 = .ok (.bipush 100, 2) := by decide +kernel
theorem dX6_init_470 : decode cX6_init 470 = .ok (.iconst 0, 1) := by decide +kernel
theorem dX6_init_471 : decode cX6_init 471 = .ok (.iconst 0, 1) := by decide +kernel
theorem dX6_init_472 : decode cX6_init 472 = .ok (.iconst 0, 1) := by decide +kernel
theorem dX6_init_473 : decode cX6_init 473 = .ok (.iconst 0, 1) := by decide +kernel
theorem dX6_init_474 : decode cX6_init 474 = .ok (.invokestatic 146, 3) := by decide +kernel
theorem dX6_init_477 : decode cX6_init 477 = .ok (.lastore, 1) := by decide +kernel
theorem dX6_init_478 : decode cX6_init 478 = .ok (.aload_n 0, 1) := by decide +kernel
theorem dX6_init_479 : decode cX6_init 479 = .ok (.getfield 34, 3) := by decide +kernel
theorem dX6_init_482 : decode cX6_init 482 = .ok (.bipush 6, 2) := by decide +kernel
theorem dX6_init_484 : decode cX6_init 484 = .ok (.bipush 100, 2) := by decide +kernel
theorem dX6_init_486 : decode cX6_init 486 = .ok (.bipush 97, 2) := by decide +kernel
theorem dX6_init_488 : decode cX6_init 488 = .ok (.bipush 121, 2) := by decide +kernel
theorem dX6_init_490 : decode cX6_init 490 = .ok (.bipush 115, 2) := by decide +kernel
theorem dX6_init_492 : decode cX6_init 492 = .ok (.iconst 0, 1) := by decide +kernel
theorem dX6_init_493 : decode cX6_init 493 = .ok (.iconst 0, 1) := by decide +kernel
theorem dX6_init_494 : decode cX6_init 494 = .ok (.iconst 0, 1) := by decide +kernel
theorem dX6_init_495 : decode cX6_init 495 = .ok (.invokestatic 146, 3) := by decide +kernel
theorem dX6_init_498 : decode cX6_init 498 = .ok (.lastore, 1) := by decide +kernel
theorem dX6_init_499 : decode cX6_init 499 = .ok (.aload_n 0, 1) := by decide +kernel
theorem dX6_init_500 : decode cX6_init 500 = .ok (.getfield 34, 3) := by decide +kernel
theorem dX6_init_503 : decode cX6_init 503 = .ok (.bipush 7, 2) := by decide +kernel
theorem dX6_init_505 : decode cX6_init 505 = .ok (.bipush 115, 2) := by decide +kernel
theorem dX6_init_507 : decode cX6_init 507 = .ok (.bipush 101, 2) := by decide +kernel
theorem dX6_init_509 : decode cX6_init 509 = .ok (.bipush 101, 2) := by decide +kernel
theorem dX6_init_511 : decode cX6_init 511 = .ok (.bipush 110, 2) := by decide +kernel
theorem dX6_init_513 : decode cX6_init 513 = .ok (.iconst 0, 1) := by decide +kernel
theorem dX6_init_514 : decode cX6_init 514 = .ok (.iconst 0, 1) := by decide +kernel
theorem dX6_init_515 : decode cX6_init 515 = .ok (.iconst 0, 1) := by decide +kernel
theorem dX6_init_516 : decode cX6_init 516 = .ok (.invokestatic 146, 3) := by decide +kernel
theorem dX6_init_519 : decode cX6_init 519 = .ok (.lastore, 1) := by decide +kernel
theorem dX6_init_520 : decode cX6_init 520 = .ok (.aload_n 0, 1) := by decide +kernel
theorem dX6_init_521 : decode cX6_init 521 = .ok (.getfield 34, 3) := by decide +kernel
theorem dX6_init_524 : decode cX6_init 524 = .ok (.bipush 8, 2) := by decide +kernel
theorem dX6_init_526 : decode cX6_init 526 = .ok (.bipush 119, 2) := by decide +kernel
theorem dX6_init_528 : decode cX6_init 528 = .ok (.bipush 111, 2) := by decide +kernel
theorem dX6_init_530 : decode cX6_init 530 = .ok (.bipush 114, 2) := by decide +kernel
theorem dX6_init_532 : decode cX6_init 532 = .ok (.bipush 116, 2) := by decide +kernel
theorem dX6_init_534 : decode cX6_init 534 = .ok (.bipush 104, 2) := by decide +kernel
theorem dX6_init_536 : decode cX6_init 536 = .ok (.iconst 0, 1) := by decide +kernel
theorem dX6_init_537 : decode cX6_init 537 = .ok (.iconst 0, 1) := by decide +kernel
theorem dX6_init_538 : decode cX6_init 538 = .ok (.invokestatic 146, 3) := by decide +kernel
theorem dX6_init_541 : decode cX6_init 541 = .ok (.lastore, 1) := by decide +kernel
theorem dX6_init_542 : decode cX6_init 542 = .ok (.aload_n 0, 1) := by decide +kernel
theorem dX6_init_543 : decode cX6_init 543 = .ok (.getfield 34, 3) := by decide +kernel
theorem dX6_init_546 : decode cX6_init 546 = .ok (.bipush 9, 2) := by decide +kernel
theorem dX6_init_548 : decode cX6_init 548 = .ok (.bipush 98, 2) := by decide +kernel
theorem dX6_init_550 : decode cX6_init 550 = .ok (.bipush 101, 2) := by decide +kernel
theorem dX6_init_552 : decode cX6_init 552 = .ok (.bipush 115, 2) := by decide +kernel
theorem dX6_init_554 : decode cX6_init 554 = .ok (.bipush 116, 2) := by decide +kernel
theorem dX6_init_556 : decode cX6_init 556 = .ok (.iconst 0, 1) := by decide +kernel
theorem dX6_init_557 : decode cX6_init 557 = .ok (.iconst 0, 1) := by decide +kernel
theorem dX6_init_558 : decode cX6_init 558 = .ok (.iconst 0, 1) := by decide +kernel
theorem dX6_init_559 : decode cX6_init 559 = .ok (.invokestatic 146, 3) := by decide +kernel
theorem dX6_init_562 : decode cX6_init 562 = .ok (.lastore, 1) := by decide +kernel
theorem dX6_init_563 : decode cX6_init 563 = .ok (.aload_n 0, 1) := by decide +kernel
theorem dX6_init_564 : decode cX6_init 564 = .ok (.getfield 34, 3) := by decide +kernel
theorem dX6_init_567 : decode cX6_init 567 = .ok (.bipush 10, 2) := by decide +kernel
theorem dX6_init_569 : decode cX6_init 569 = .ok (.bipush 108, 2) := by decide +kernel
theorem dX6_init_571 : decode cX6_init 571 = .ok (.bipush 105, 2) := by decide +kernel
theorem dX6_init_573 : decode cX6_init 573 = .ok (.bipush 103, 2) := by decide +kernel
theorem dX6_init_575 : decode cX6_init 575 = .ok (.bipush 104, 2) := by decide +kernel
theorem dX6_init_577 : decode cX6_init 577 = .ok (.bipush 116, 2) := by decide +kernel
theorem dX6_init_579 : decode cX6_init 579 = .ok (.iconst 0, 1) := by decide +kernel
theorem dX6_init_580 : decode cX6_init 580 = .ok (.iconst 0, 1) := by decide +kernel
theorem dX6_init_581 : decode cX6_init 581 = .ok (.invokestatic 146, 3) := by decide +kernel
theorem dX6_init_584 : decode cX6_init 584 = .ok (.lastore, 1) := by decide +kernel
theorem dX6_init_585 : decode cX6_init 585 = .ok (.aload_n 0, 1) := by decide +kernel
theorem dX6_init_586 : decode cX6_init 586 = .ok (.getfield 34, 3) := by decide +kernel
theorem dX6_init_589 : decode cX6_init 589 = .ok (.bipush 11, 2) := by decide +kernel
theorem dX6_init_591 : decode cX6_init 591 = .ok (.bipush 99, 2) := by decide +kernel
theorem dX6_init_593 : decode cX6_init 593 = .ok (.bipush 108, 2) := by decide +kernel
theorem dX6_init_595 : decode cX6_init 595 = .ok (.bipush 111, 2) := by decide +kernel
theorem dX6_init_597 : decode cX6_init 597 = .ok (.bipush 117, 2) := by decide +kernel
theorem dX6_init_599 : decode cX6_init 599 = .ok (.bipush 100, 2) := by decide +kernel
theorem dX6_init_601 : decode cX6_init 601 = .ok (.iconst 0, 1) := by decide +kernel
theorem dX6_init_602 : decode cX6_init 602 = .ok (.iconst 0, 1) := by decide +kernel
theorem dX6_init_603 : decode cX6_init 603 = .ok (.invokestatic 146, 3) := by decide +kernel
theorem dX6_init_606 : decode cX6_init 606 = .ok (.lastore, 1) := by decide +kernel
theorem dX6_init_607 : decode cX6_init 607 = .ok (.aload_n 0, 1) := by decide +kernel
theorem dX6_init_608 : decode cX6_init 608 = .ok (.getfield 34, 3) := by decide +kernel
theorem dX6_init_611 : decode cX6_init 611 = .ok (.bipush 12, 2) := by decide +kernel
theorem dX6_init_613 : decode cX6_init 613 = .ok (.bipush 111, 2) := by decide +kernel
theorem dX6_init_615 : decode cX6_init 615 = .ok (.bipush 116, 2) := by decide +kernel
theorem dX6_init_617 : decode cX6_init 617 = .ok (.bipush 104, 2) := by decide +kernel
theorem dX6_init_619 : decode cX6_init 619 = .ok (.bipush 101, 2) := by decide +kernel
theorem dX6_init_621 : decode cX6_init 621 = .ok (.bipush 114, 2) := by decide +kernel
theorem dX6_init_623 : decode cX6_init 623 = .ok (.bipush 115, 2) := by decide +kernel
theorem dX6_init_625 : decode cX6_init 625 = .ok (.iconst 0, 1) := by decide +kernel
theorem dX6_init_626 : decode cX6_init 626 = .ok (.invokestatic 146, 3) := by decide +kernel
theorem dX6_init_629 : decode cX6_init 629 = .ok (.lastore, 1) := by decide +kernel
theorem dX6_init_630 : decode cX6_init 630 = .ok (.aload_n 0, 1) := by decide +kernel
theorem dX6_init_631 : decode cX6_init 631 = .ok (.getfield 34, 3) := by decide +kernel
theorem dX6_init_634 : decode cX6_init 634 = .ok (.bipush 13, 2) := by decide +kernel
theorem dX6_init_636 : decode cX6_init 636 = .ok (.bipush 109, 2) := by decide +kernel
theorem dX6_init_638 : decode cX6_init 638 = .ok (.bipush 111, 2) := by decide +kernel
theorem dX6_init_640 : decode cX6_init 640 = .ok (.bipush 110, 2) := by decide +kernel
theorem dX6_init_642 : decode cX6_init 642 = .ok (.bipush 116, 2) := by decide +kernel
theorem dX6_init_644 : decode cX6_init 644 = .ok (.bipush 104, 2) := by decide +kernel
theorem dX6_init_646 : decode cX6_init 646 = .ok (.iconst 0, 1) := by decide +kernel
theorem dX6_init_647 : decode cX6_init 647 = .ok (.iconst 0, 1) := by decide +kernel
theorem dX6_init_648 : decode cX6_init 648 = .ok (.invokestatic 146, 3) := by decide +kernel
theorem dX6_init_651 : decode cX6_init 651 = .ok (.lastore, 1) := by decide +kernel
theorem dX6_init_652 : decode cX6_init 652 = .ok (.iconst 0, 1) := by decide +kernel
theorem dX6_init_653 : decode cX6_init 653 = .ok (.istore_n 1, 1) := by decide +kernel
theorem dX6_init_654 : decode cX6_init 654 = .ok (.iload_n 1, 1) := by decide +kernel
theorem dX6_init_655 : decode cX6_init 655 = .ok (.bipush 36, 2) := by decide +kernel
theorem dX6_init_657 : decode cX6_init 657 = .ok (.if_icmp .ge 27, 3) := by decide +kernel
theorem dX6_init_660 : decode cX6_init 660 = .ok (.aload_n 0, 1) := by decide +kernel
theorem dX6_init_661 : decode cX6_init 661 = .ok (.getfield 98, 3) := by decide +kernel
theorem dX6_init_664 : decode cX6_init 664 = .ok (.iload_n 1, 1) := by decide +kernel
theorem dX6_init_665 : decode cX6_init 665 = .ok (.iload_n 1, 1) := by decide +kernel
theorem dX6_init_666 : decode cX6_init 666 = .ok (.bipush 7, 2) := by decide +kernel
theorem dX6_init_668 : decode cX6_init 668 = .ok (.irem, 1) := by decide +kernel
theorem dX6_init_669 : decode cX6_init 669 = .ok (.ifCond .ne 7, 3) := by decide +kernel
theorem dX6_init_672 : decode cX6_init 672 = .ok (.iconst 0, 1) := by decide +kernel
theorem dX6_init_673 : decode cX6_init 673 = .ok (.goto 4, 3) := by decide +kernel
theorem dX6_init_676 : decode cX6_init 676 = .ok (.iconst (-1), 1) := by decide +kernel
theorem dX6_init_677 : decode cX6_init 677 = .ok (.iastore, 1) := by decide +kernel
theorem dX6_init_678 : decode cX6_init 678 = .ok (.iinc 1 1, 3) := by decide +kernel
theorem dX6_init_681 : decode cX6_init 681 = .ok (.goto (-27), 3) := by decide +kernel
theorem dX6_init_684 : decode cX6_init 684 = .ok (.iconst 0, 1) := by decide +kernel
theorem dX6_init_685 : decode cX6_init 685 = .ok (.istore_n 1, 1) := by decide +kernel
theorem dX6_init_686 : decode cX6_init 686 = .ok (.iload_n 1, 1) := by decide +kernel
theorem dX6_init_687 : decode cX6_init 687 = .ok (.bipush 6, 2) := by decide +kernel
theorem dX6_init_689 : decode cX6_init 689 = .ok (.if_icmp .ge 16, 3) := by decide +kernel
theorem dX6_init_692 : decode cX6_init 692 = .ok (.aload_n 0, 1) := by decide +kernel
theorem dX6_init_693 : decode cX6_init 693 = .ok (.getfield 92, 3) := by decide +kernel
theorem dX6_init_696 : decode cX6_init 696 = .ok (.iload_n 1, 1) := by decide +kernel
theorem dX6_init_697 : decode cX6_init 697 = .ok (.iconst (-1), 1) := by decide +kernel
theorem dX6_init_698 : decode cX6_init 698 = .ok (.iastore, 1) := by decide +kernel
theorem dX6_init_699 : decode cX6_init 699 = .ok (.iinc 1 1, 3) := by decide +kernel
theorem dX6_init_702 : decode cX6_init 702 = .ok (.goto (-16), 3) := by decide +kernel
theorem dX6_init_705 : decode cX6_init 705 = .ok (.return_, 1) := by decide +kernel
set_option maxRecDepth 20000 in
theorem ggX6_feed_X6_put : GoodIn wsX6_feed wsX6_put := goodIn_r _ [6, 7, 1, 8, 9, 10, 11, 12, 13, 14, 15, 16, 17, 18, 19, 20, 21, 22, 23, 24, 25, 26, 27, 28, 29, 30, 31, 32, 33, 34, 35, 36, 37, 38, 39, 40, 41, 42, 43, 44, 45, 46, 47, 48, 49, 50, 51, 52, 53, 54, 55, 56, 57, 58, 59, 60, 61, 62, 63, 64, 65, 66, 67] (by decide +kernel) (by decide +kernel)
set_option maxRecDepth 20000 in
theorem gX6_feed_X6_put : GoodIn wsX6_feed (wsV RX6 153 RX6 yX6_put wsX6_put) := goodIn_app (goodIn_of _ (by decide +kernel)) ggX6_feed_X6_put
theorem dX6_feed_0 : decode cX6_feed 0 = .ok (.aload_n 0, 1) := by decide +kernel
theorem dX6_feed_1 : decode cX6_feed 1 = .ok (.getfield 150, 3) := by decide +kernel
theorem dX6_feed_4 : decode cX6_feed 4 = .ok (.bipush 20, 2) := by decide +kernel
theorem dX6_feed_6 : decode cX6_feed 6 = .ok (.iadd, 1) := by decide +kernel
theorem dX6_feed_7 : decode cX6_feed 7 = .ok (.sipush 2000, 3) := by decide +kernel
theorem dX6_feed_10 : decode cX6_feed 10 = .ok (.if_icmp .le 5, 3) := by decide +kernel
theorem dX6_feed_13 : decode cX6_feed 13 = .ok (.iconst (-1), 1) := by decide +kernel
theorem dX6_feed_14 : decode cX6_feed 14 = .ok (.ireturn, 1) := by decide +kernel
theorem dX6_feed_15 : decode cX6_feed 15 = .ok (.aload_n 0, 1) := by decide +kernel
theorem dX6_feed_16 : decode cX6_feed 16 = .ok (.iload_n 1, 1) := by decide +kernel
theorem dX6_feed_17 : decode cX6_feed 17 = .ok (.invokevirtual 153, 3) := by decide +kernel
theorem dX6_feed_20 : decode cX6_feed 20 = .ok (.aload_n 0, 1) := by decide +kernel
theorem dX6_feed_21 : decode cX6_feed 21 = .ok (.iload_n 2, 1) := by decide +kernel
theorem dX6_feed_22 : decode cX6_feed 22 = .ok (.invokevirtual 153, 3) := by decide +kernel
theorem dX6_feed_25 : decode cX6_feed 25 = .ok (.aload_n 0, 1) := by decide +kernel
theorem dX6_feed_26 : decode cX6_feed 26 = .ok (.iload_n 3, 1) := by decide +kernel
theorem dX6_feed_27 : decode cX6_feed 27 = .ok (.invokevirtual 153, 3) := by decide +kernel
theorem dX6_feed_30 : decode cX6_feed 30 = .ok (.aload_n 0, 1) := by decide +kernel
theorem dX6_feed_31 : decode cX6_feed 31 = .ok (.iload 4, 2) := by decide +kernel
theorem dX6_feed_33 : decode cX6_feed 33 = .ok (.invokevirtual 153, 3) := by decide +kernel
theorem dX6_feed_36 : decode cX6_feed 36 = .ok (.aload_n 0, 1) := by decide +kernel
theorem dX6_feed_37 : decode cX6_feed 37 = .ok (.iload 5, 2) := by decide +kernel
theorem dX6_feed_39 : decode cX6_feed 39 = .ok (.invokevirtual 153, 3) := by decide +kernel
theorem dX6_feed_42 : decode cX6_feed 42 = .ok (.aload_n 0, 1) := by decide +kernel
theorem dX6_feed_43 : decode cX6_feed 43 = .ok (.getfield 150, 3) := by decide +kernel
theorem dX6_feed_46 : decode cX6_feed 46 = .ok (.ireturn, 1) := by decide +kernel
theorem dX6_put_0 : decode cX6_put 0 = .ok (.bipush 24, 2) := by decide +kernel
theorem dX6_put_2 : decode cX6_put 2 = .ok (.istore_n 2, 1) := by decide +kernel
theorem dX6_put_3 : decode cX6_put 3 = .ok (.iload_n 2, 1) := by decide +kernel
theorem dX6_put_4 : decode cX6_put 4 = .ok (.ifCond .lt 32, 3) := by decide +kernel
theorem dX6_put_7 : decode cX6_put 7 = .ok (.aload_n 0, 1) := by decide +kernel
theorem dX6_put_8 : decode cX6_put 8 = .ok (.getfield 13, 3) := by decide +kernel
theorem dX6_put_11 : decode cX6_put 11 = .ok (.aload_n 0, 1) := by decide +kernel
theorem dX6_put_12 : decode cX6_put 12 = .ok (.getfield 150, 3) := by decide +kernel
theorem dX6_put_15 : decode cX6_put 15 = .ok (.iload_n 1, 1) := by decide +kernel
theorem dX6_put_16 : decode cX6_put 16 = .ok (.iload_n 2, 1) := by decide +kernel
theorem dX6_put_17 : decode cX6_put 17 = .ok (.ishr, 1) := by decide +kernel
theorem dX6_put_18 : decode cX6_put 18 = .ok (.i2b, 1) := by decide +kernel
theorem dX6_put_19 : decode cX6_put 19 = .ok (.bastore, 1) := by decide +kernel
theorem dX6_put_20 : decode cX6_put 20 = .ok (.aload_n 0, 1) := by decide +kernel
theorem dX6_put_21 : decode cX6_put 21 = .ok (.dup, 1) := by decide +kernel
theorem dX6_put_22 : decode cX6_put 22 = .ok (.getfield 150, 3) := by decide +kernel
theorem dX6_put_25 : decode cX6_put 25 = .ok (.iconst 1, 1) := by decide +kernel
theorem dX6_put_26 : decode cX6_put 26 = .ok (.iadd, 1) := by decide +kernel
theorem dX6_put_27 : decode cX6_put 27 = .ok (.putfield 150, 3) := by decide +kernel
theorem dX6_put_30 : decode cX6_put 30 = .ok (.iinc 2 (-8), 3) := by decide +kernel
theorem dX6_put_33 : decode cX6_put 33 = .ok (.goto (-30), 3) := by decide +kernel
theorem dX6_put_36 : decode cX6_put 36 = .ok (.return_, 1) := by decide +kernel
theorem dX6_back_0 : decode cX6_back 0 = .ok (.iload_n 1, 1) := by decide +kernel
theorem dX6_back_1 : decode cX6_back 1 = .ok (.ifCond .lt 11, 3) := by decide +kernel
theorem dX6_back_4 : decode cX6_back 4 = .ok (.iload_n 1, 1) := by decide +kernel
theorem dX6_back_5 : decode cX6_back 5 = .ok (.aload_n 0, 1) := by decide +kernel
theorem dX6_back_6 : decode cX6_back 6 = .ok (.getfield 150, 3) := by decide +kernel
theorem dX6_back_9 : decode cX6_back 9 = .ok (.if_icmp .le 5, 3) := by decide +kernel
theorem dX6_back_12 : decode cX6_back 12 = .ok (.iconst (-1), 1) := by decide +kernel
theorem dX6_back_13 : decode cX6_back 13 = .ok (.ireturn, 1) := by decide +kernel
theorem dX6_back_14 : decode cX6_back 14 = .ok (.aload_n 0, 1) := by decide +kernel
theorem dX6_back_15 : decode cX6_back 15 = .ok (.dup, 1) := by decide +kernel
theorem dX6_back_16 : decode cX6_back 16 = .ok (.getfield 150, 3) := by decide +kernel
theorem dX6_back_19 : decode cX6_back 19 = .ok (.iload_n 1, 1) := by decide +kernel
theorem dX6_back_20 : decode cX6_back 20 = .ok (.isub, 1) := by decide +kernel
theorem dX6_back_21 : decode cX6_back 21 = .ok (.putfield 150, 3) := by decide +kernel
theorem dX6_back_24 : decode cX6_back 24 = .ok (.aload_n 0, 1) := by decide +kernel
theorem dX6_back_25 : decode cX6_back 25 = .ok (.getfield 150, 3) := by decide +kernel
theorem dX6_back_28 : decode cX6_back 28 = .ok (.ireturn, 1) := by decide +kernel
theorem dX6_at_0 : decode cX6_at 0 = .ok (.iload_n 1, 1) := by decide +kernel
theorem dX6_at_1 : decode cX6_at 1 = .ok (.aload_n 0, 1) := by decide +kernel
theorem dX6_at_2 : decode cX6_at 2 = .ok (.getfield 157, 3) := by decide +kernel
theorem dX6_at_5 : decode cX6_at 5 = .ok (.if_icmp .ge 16, 3) := by decide +kernel
theorem dX6_at_8 : decode cX6_at 8 = .ok (.aload_n 0, 1) := by decide +kernel
theorem dX6_at_9 : decode cX6_at 9 = .ok (.getfield 17, 3) := by decide +kernel
theorem dX6_at_12 : decode cX6_at 12 = .ok (.iload_n 1, 1) := by decide +kernel
theorem dX6_at_13 : decode cX6_at 13 = .ok (.baload, 1) := by decide +kernel
theorem dX6_at_14 : decode cX6_at 14 = .ok (.sipush 255, 3) := by decide +kernel
theorem dX6_at_17 : decode cX6_at 17 = .ok (.iand, 1) := by decide +kernel
theorem dX6_at_18 : decode cX6_at 18 = .ok (.goto 4, 3) := by decide +kernel
theorem dX6_at_21 : decode cX6_at 21 = .ok (.iconst 0, 1) := by decide +kernel
theorem dX6_at_22 : decode cX6_at 22 = .ok (.ireturn, 1) := by decide +kernel
theorem dX6_isDigit_0 : decode cX6_isDigit 0 = .ok (.iload_n 0, 1) := by decide +kernel
theorem dX6_isDigit_1 : decode cX6_isDigit 1 = .ok (.bipush 48, 2) := by decide +kernel
theorem dX6_isDigit_3 : decode cX6_isDigit 3 = .ok (.if_icmp .lt 13, 3) := by decide +kernel
theorem dX6_isDigit_6 : decode cX6_isDigit 6 = .ok (.iload_n 0, 1) := by decide +kernel
theorem dX6_isDigit_7 : decode cX6_isDigit 7 = .ok (.bipush 57, 2) := by decide +kernel
theorem dX6_isDigit_9 : decode cX6_isDigit 9 = .ok (.if_icmp .gt 7, 3) := by decide +kernel
theorem dX6_isDigit_12 : decode cX6_isDigit 12 = .ok (.iconst 1, 1) := by decide +kernel
theorem dX6_isDigit_13 : decode cX6_isDigit 13 = .ok (.goto 4, 3) := by decide +kernel
theorem dX6_isDigit_16 : decode cX6_isDigit 16 = .ok (.iconst 0, 1) := by decide +kernel
theorem dX6_isDigit_17 : decode cX6_isDigit 17 = .ok (.ireturn, 1) := by decide +kernel
theorem dX6_isLetter_0 : decode cX6_isLetter 0 = .ok (.iload_n 0, 1) := by decide +kernel
theorem dX6_isLetter_1 : decode cX6_isLetter 1 = .ok (.bipush 97, 2) := by decide +kernel
theorem dX6_isLetter_3 : decode cX6_isLetter 3 = .ok (.if_icmp .lt 13, 3) := by decide +kernel
theorem dX6_isLetter_6 : decode cX6_isLetter 6 = .ok (.iload_n 0, 1) := by decide +kernel
theorem dX6_isLetter_7 : decode cX6_isLetter 7 = .ok (.bipush 122, 2) := by decide +kernel
theorem dX6_isLetter_9 : decode cX6_isLetter 9 = .ok (.if_icmp .gt 7, 3) := by decide +kernel
theorem dX6_isLetter_12 : decode cX6_isLetter 12 = .ok (.iconst 1, 1) := by decide +kernel
theorem dX6_isLetter_13 : decode cX6_isLetter 13 = .ok (.goto 4, 3) := by decide +kernel
theorem dX6_isLetter_16 : decode cX6_isLetter 16 = .ok (.iconst 0, 1) := by decide +kernel
theorem dX6_isLetter_17 : decode cX6_isLetter 17 = .ok (.ireturn, 1) := by decide +kernel
theorem dX6_more_0 : decode cX6_more 0 = .ok (.iload_n 2, 1) := by decide +kernel
theorem dX6_more_1 : decode cX6_more 1 = .ok (.ifCond .ne 7, 3) := by decide +kernel
theorem dX6_more_4 : decode cX6_more 4 = .ok (.lload_n 0, 1) := by decide +kernel
theorem dX6_more_5 : decode cX6_more 5 = .ok (.goto 16, 3) := by decide +kernel
theorem dX6_more_8 : decode cX6_more 8 = .ok (.ldc2_w 160, 3) := by decide +kernel
theorem dX6_more_11 : decode cX6_more 11 = .ok (.lload_n 0, 1) := by decide +kernel
theorem dX6_more_12 : decode cX6_more 12 = .ok (.lmul, 1) := by decide +kernel
theorem dX6_more_13 : decode cX6_more 13 = .ok (.iload_n 2, 1) := by decide +kernel
theorem dX6_more_14 : decode cX6_more 14 = .ok (.bipush 97, 2) := by decide +kernel
theorem dX6_more_16 : decode cX6_more 16 = .ok (.isub, 1) := by decide +kernel
theorem dX6_more_17 : decode cX6_more 17 = .ok (.iconst 1, 1) := by decide +kernel
theorem dX6_more_18 : decode cX6_more 18 = .ok (.iadd, 1) := by decide +kernel
theorem dX6_more_19 : decode cX6_more 19 = .ok (.i2l, 1) := by decide +kernel
theorem dX6_more_20 : decode cX6_more 20 = .ok (.ladd, 1) := by decide +kernel
theorem dX6_more_21 : decode cX6_more 21 = .ok (.lreturn, 1) := by decide +kernel
set_option maxRecDepth 20000 in
theorem ggX6_word_X6_more : GoodIn wsX6_word wsX6_more := goodIn_r _ [4, 5] (by decide +kernel) (by decide +kernel)
set_option maxRecDepth 20000 in
theorem gX6_word_X6_more : GoodIn wsX6_word (va_wsS RX6 162 yX6_more wsX6_more) := goodIn_app (goodIn_of _ (by decide +kernel)) ggX6_word_X6_more
theorem dX6_word_0 : decode cX6_word 0 = .ok (.lconst 0, 1) := by decide +kernel
theorem dX6_word_1 : decode cX6_word 1 = .ok (.iload_n 0, 1) := by decide +kernel
theorem dX6_word_2 : decode cX6_word 2 = .ok (.invokestatic 162, 3) := by decide +kernel
theorem dX6_word_5 : decode cX6_word 5 = .ok (.iload_n 1, 1) := by decide +kernel
theorem dX6_word_6 : decode cX6_word 6 = .ok (.invokestatic 162, 3) := by decide +kernel
theorem dX6_word_9 : decode cX6_word 9 = .ok (.iload_n 2, 1) := by decide +kernel
theorem dX6_word_10 : decode cX6_word 10 = .ok (.invokestatic 162, 3) := by decide +kernel
theorem dX6_word_13 : decode cX6_word 13 = .ok (.iload_n 3, 1) := by decide +kernel
theorem dX6_word_14 : decode cX6_word 14 = .ok (.invokestatic 162, 3) := by decide +kernel
theorem dX6_word_17 : decode cX6_word 17 = .ok (.iload 4, 2) := by decide +kernel
theorem dX6_word_19 : decode cX6_word 19 = .ok (.invokestatic 162, 3) := by decide +kernel
theorem dX6_word_22 : decode cX6_word 22 = .ok (.iload 5, 2) := by decide +kernel
theorem dX6_word_24 : decode cX6_word 24 = .ok (.invokestatic 162, 3) := by decide +kernel
theorem dX6_word_27 : decode cX6_word 27 = .ok (.iload 6, 2) := by decide +kernel
theorem dX6_word_29 : decode cX6_word 29 = .ok (.invokestatic 162, 3) := by decide +kernel
theorem dX6_word_32 : decode cX6_word 32 = .ok (.lreturn, 1) := by decide +kernel
theorem dX6_token_0 : decode cX6_token 0 = .ok (.aload_n 0, 1) := by decide +kernel
theorem dX6_token_1 : decode cX6_token 1 = .ok (.getfield 20, 3) := by decide +kernel
theorem dX6_token_4 : decode cX6_token 4 = .ok (.aload_n 0, 1) := by decide +kernel
theorem dX6_token_5 : decode cX6_token 5 = .ok (.getfield 166, 3) := by decide +kernel
theorem dX6_token_8 : decode cX6_token 8 = .ok (.iload_n 1, 1) := by decide +kernel
theorem dX6_token_9 : decode cX6_token 9 = .ok (.iastore, 1) := by decide +kernel
theorem dX6_token_10 : decode cX6_token 10 = .ok (.aload_n 0, 1) := by decide +kernel
theorem dX6_token_11 : decode cX6_token 11 = .ok (.getfield 24, 3) := by decide +kernel
theorem dX6_token_14 : decode cX6_token 14 = .ok (.aload_n 0, 1) := by decide +kernel
theorem dX6_token_15 : decode cX6_token 15 = .ok (.getfield 166, 3) := by decide +kernel
theorem dX6_token_18 : decode cX6_token 18 = .ok (.iload_n 2, 1) := by decide +kernel
theorem dX6_token_19 : decode cX6_token 19 = .ok (.iastore, 1) := by decide +kernel
theorem dX6_token_20 : decode cX6_token 20 = .ok (.aload_n 0, 1) := by decide +kernel
theorem dX6_token_21 : decode cX6_token 21 = .ok (.getfield 27, 3) := by decide +kernel
theorem dX6_token_24 : decode cX6_token 24 = .ok (.aload_n 0, 1) := by decide +kernel
theorem dX6_token_25 : decode cX6_token 25 = .ok (.getfield 166, 3) := by decide +kernel
theorem dX6_token_28 : decode cX6_token 28 = .ok (.iload_n 3, 1) := by decide +kernel
theorem dX6_token_29 : decode cX6_token 29 = .ok (.iastore, 1) := by decide +kernel
theorem dX6_token_30 : decode cX6_token 30 = .ok (.aload_n 0, 1) := by decide +kernel
theorem dX6_token_31 : decode cX6_token 31 = .ok (.getfield 30, 3) := by decide +kernel
theorem dX6_token_34 : decode cX6_token 34 = .ok (.aload_n 0, 1) := by decide +kernel
theorem dX6_token_35 : decode cX6_token 35 = .ok (.getfield 166, 3) := by decide +kernel
theorem dX6_token_38 : decode cX6_token 38 = .ok (.lload 4, 2) := by decide +kernel
theorem dX6_token_40 : decode cX6_token 40 = .ok (.lastore, 1) := by decide +kernel
theorem dX6_token_41 : decode cX6_token 41 = .ok (.aload_n 0, 1) := by decide +kernel
theorem dX6_token_42 : decode cX6_token 42 = .ok (.dup, 1) := by decide +kernel
theorem dX6_token_43 : decode cX6_token 43 = .ok (.getfield 166, 3) := by decide +kernel
theorem dX6_token_46 : decode cX6_token 46 = .ok (.iconst 1, 1) := by decide +kernel
theorem dX6_token_47 : decode cX6_token 47 = .ok (.iadd, 1) := by decide +kernel
theorem dX6_token_48 : decode cX6_token 48 = .ok (.putfield 166, 3) := by decide +kernel
theorem dX6_token_51 : decode cX6_token 51 = .ok (.return_, 1) := by decide +kernel
set_option maxRecDepth 20000 in
theorem ggX6_cut_X6_at : GoodIn wsX6_cut wsX6_at := goodIn_r _ [8, 2, 9, 32, 33, 34, 35, 36, 37, 38, 39, 40, 41, 42, 43, 44, 45, 46, 47, 48, 49, 50, 51, 52, 53, 54, 55, 56, 57, 58, 59, 60, 61, 62, 63, 64, 65, 66, 67, 68, 69, 70, 71, 72, 73, 74, 75, 76, 77, 78, 79, 80, 81, 82, 83, 84, 85, 86, 87, 88, 89, 90, 91] (by decide +kernel) (by decide +kernel)
set_option maxRecDepth 20000 in
theorem gX6_cut_X6_at : GoodIn wsX6_cut (wsV RX6 169 RX6 yX6_at wsX6_at) := goodIn_app (goodIn_of _ (by decide +kernel)) ggX6_cut_X6_at
set_option maxRecDepth 20000 in
theorem ggX6_cut_X6_token : GoodIn wsX6_cut wsX6_token := goodIn_r _ [13, 14, 1, 15, 16, 17, 32, 33, 34, 35, 36, 37, 38, 39, 40, 41, 42, 43, 44, 45, 46, 47, 48, 49, 50, 51, 52, 53, 54, 55, 56, 57, 58, 59, 60, 61, 62, 63, 64, 65, 66, 67, 68, 69, 70, 71, 72, 73, 74, 75, 76, 77, 78, 79, 80, 81, 82, 83, 84, 85, 86, 87, 88, 89, 90, 91] (by decide +kernel) (by decide +kernel)
set_option maxRecDepth 20000 in
theorem gX6_cut_X6_token : GoodIn wsX6_cut (wsV RX6 173 RX6 yX6_token wsX6_token) := goodIn_app (goodIn_of _ (by decide +kernel)) ggX6_cut_X6_token
set_option maxRecDepth 20000 in
theorem ggX6_cut_X6_isLetter : GoodIn wsX6_cut wsX6_isLetter := goodIn_r _ [20] (by decide +kernel) (by decide +kernel)
set_option maxRecDepth 20000 in
theorem gX6_cut_X6_isLetter : GoodIn wsX6_cut (va_wsS RX6 177 yX6_isLetter wsX6_isLetter) := goodIn_app (goodIn_of _ (by decide +kernel)) ggX6_cut_X6_isLetter
set_option maxRecDepth 20000 in
theorem ggX6_cut_X6_more : GoodIn wsX6_cut wsX6_more := goodIn_r _ [23, 24] (by decide +kernel) (by decide +kernel)
set_option maxRecDepth 20000 in
theorem gX6_cut_X6_more : GoodIn wsX6_cut (va_wsS RX6 162 yX6_more wsX6_more) := goodIn_app (goodIn_of _ (by decide +kernel)) ggX6_cut_X6_more
set_option maxRecDepth 20000 in
theorem ggX6_cut_X6_isDigit : GoodIn wsX6_cut wsX6_isDigit := goodIn_r _ [27] (by decide +kernel) (by decide +kernel)
set_option maxRecDepth 20000 in
theorem gX6_cut_X6_isDigit : GoodIn wsX6_cut (va_wsS RX6 181 yX6_isDigit wsX6_isDigit) := goodIn_app (goodIn_of _ (by decide +kernel)) ggX6_cut_X6_isDigit
set_option maxRecDepth 20000 in
theorem ggX6_cut_X6_sign : GoodIn wsX6_cut wsX6_sign := goodIn_r _ [31, 10, 11, 12, 7, 13, 14, 1, 15, 16, 17, 32, 33, 34, 35, 36, 37, 38, 39, 40, 41, 42, 43, 44, 45, 46, 47, 48, 49, 50, 51, 52, 53, 54, 55, 56, 57, 58, 59, 60, 61, 62, 63, 64, 65, 66, 67, 68, 69, 70, 71, 72, 73, 74, 75, 76, 77, 78, 79, 80, 81, 82, 83, 84, 85, 86, 87, 88, 89, 90, 91] (by decide +kernel) (by decide +kernel)
set_option maxRecDepth 20000 in
theorem gX6_cut_X6_sign : GoodIn wsX6_cut (wsV RX6 184 RX6 yX6_sign wsX6_sign) := goodIn_app (goodIn_of _ (by decide +kernel)) ggX6_cut_X6_sign
theorem dX6_cut_0 : decode cX6_cut 0 = .ok (.aload_n 0, 1) := by decide +kernel
theorem dX6_cut_1 : decode cX6_cut 1 = .ok (.iconst 0, 1) := by decide +kernel
theorem dX6_cut_2 : decode cX6_cut 2 = .ok (.putfield 166, 3) := by decide +kernel
theorem dX6_cut_5 : decode cX6_cut 5 = .ok (.iconst 0, 1) := by decide +kernel
theorem dX6_cut_6 : decode cX6_cut 6 = .ok (.istore_n 1, 1) := by decide +kernel
theorem dX6_cut_7 : decode cX6_cut 7 = .ok (.aload_n 0, 1) := by decide +kernel
theorem dX6_cut_8 : decode cX6_cut 8 = .ok (.getfield 166, 3) := by decide +kernel
theorem dX6_cut_11 : decode cX6_cut 11 = .ok (.sipush 400, 3) := by decide +kernel
theorem dX6_cut_14 : decode cX6_cut 14 = .ok (.if_icmp .gt 280, 3) := by decide +kernel
theorem dX6_cut_17 : decode cX6_cut 17 = .ok (.aload_n 0, 1) := by decide +kernel
theorem dX6_cut_18 : decode cX6_cut 18 = .ok (.iload_n 1, 1) := by decide +kernel
theorem dX6_cut_19 : decode cX6_cut 19 = .ok (.invokevirtual 169, 3) := by decide +kernel
theorem dX6_cut_22 : decode cX6_cut 22 = .ok (.istore_n 2, 1) := by decide +kernel
theorem dX6_cut_23 : decode cX6_cut 23 = .ok (.iload_n 1, 1) := by decide +kernel
theorem dX6_cut_24 : decode cX6_cut 24 = .ok (.aload_n 0, 1) := by decide +kernel
theorem dX6_cut_25 : decode cX6_cut 25 = .ok (.getfield 157, 3) := by decide +kernel
theorem dX6_cut_28 : decode cX6_cut 28 = .ok (.if_icmp .lt 15, 3) := by decide +kernel
theorem dX6_cut_31 : decode cX6_cut 31 = .ok (.aload_n 0, 1) := by decide +kernel
theorem dX6_cut_32 : decode cX6_cut 32 = .ok (.iconst 0, 1) := by decide +kernel
theorem dX6_cut_33 : decode cX6_cut 33 = .ok (.aload_n 0, 1) := by decide +kernel
theorem dX6_cut_34 : decode cX6_cut 34 = .ok (.getfield 157, 3) := by decide +kernel
theorem dX6_cut_37 : decode cX6_cut 37 = .ok (.iconst 0, 1) := by decide +kernel
theorem dX6_cut_38 : decode cX6_cut 38 = .ok (.lconst 0, 1) := by decide +kernel
theorem dX6_cut_39 : decode cX6_cut 39 = .ok (.invokevirtual 173, 3) := by decide +kernel
theorem dX6_cut_42 : decode cX6_cut 42 = .ok (.return_, 1) := by decide +kernel
theorem dX6_cut_43 : decode cX6_cut 43 = .ok (.iload_n 2, 1) := by decide +kernel
theorem dX6_cut_44 : decode cX6_cut 44 = .ok (.bipush 9, 2) := by decide +kernel
theorem dX6_cut_46 : decode cX6_cut 46 = .ok (.if_icmp .eq 21, 3) := by decide +kernel
theorem dX6_cut_49 : decode cX6_cut 49 = .ok (.iload_n 2, 1) := by decide +kernel
theorem dX6_cut_50 : decode cX6_cut 50 = .ok (.bipush 10, 2) := by decide +kernel
theorem dX6_cut_52 : decode cX6_cut 52 = .ok (.if_icmp .eq 15, 3) := by decide +kernel
theorem dX6_cut_55 : decode cX6_cut 55 = .ok (.iload_n 2, 1) := by decide +kernel
theorem dX6_cut_56 : decode cX6_cut 56 = .ok (.bipush 13, 2) := by decide +kernel
theorem dX6_cut_58 : decode cX6_cut 58 = .ok (.if_icmp .eq 9, 3) := by decide +kernel
theorem dX6_cut_61 : decode cX6_cut 61 = .ok (.iload_n 2, 1) := by decide +kernel
theorem dX6_cut_62 : decode cX6_cut 62 = .ok (.bipush 32, 2) := by decide +kernel
theorem dX6_cut_64 : decode cX6_cut 64 = .ok (.if_icmp .ne 9, 3) := by decide +kernel
theorem dX6_cut_67 : decode cX6_cut 67 = .ok (.iinc 1 1, 3) := by decide +kernel
theorem dX6_cut_70 : decode cX6_cut 70 = .ok (.goto 221, 3) := by decide +kernel
theorem dX6_cut_73 : decode cX6_cut 73 = .ok (.iload_n 2, 1) := by decide +kernel
theorem dX6_cut_74 : decode cX6_cut 74 = .ok (.invokestatic 177, 3) := by decide +kernel
theorem dX6_cut_77 : decode cX6_cut 77 = .ok (.ifCond .eq 119, 3) := by decide +kernel
theorem dX6_cut_80 : decode cX6_cut 80 = .ok (.iconst 0, 1) := by decide +kernel
theorem dX6_cut_81 : decode cX6_cut 81 = .ok (.istore_n 3, 1) := by decide +kernel
theorem dX6_cut_82 : decode cX6_cut 82 = .ok (.lconst 0, 1) := by decide +kernel
theorem dX6_cut_83 : decode cX6_cut 83 = .ok (.lstore 4, 2) := by decide +kernel
theorem dX6_cut_85 : decode cX6_cut 85 = .ok (.aload_n 0, 1) := by decide +kernel
theorem dX6_cut_86 : decode cX6_cut 86 = .ok (.iload_n 1, 1) := by decide +kernel
theorem dX6_cut_87 : decode cX6_cut 87 = .ok (.iload_n 3, 1) := by decide +kernel
theorem dX6_cut_88 : decode cX6_cut 88 = .ok (.iadd, 1) := by decide +kernel
theorem dX6_cut_89 : decode cX6_cut 89 = .ok (.invokevirtual 169, 3) := by decide +kernel
theorem dX6_cut_92 : decode cX6_cut 92 = .ok (.invokestatic 177, 3) := by decide +kernel
theorem dX6_cut_95 : decode cX6_cut 95 = .ok (.ifCond .eq 29, 3) := by decide +kernel
theorem dX6_cut_98 : decode cX6_cut 98 = .ok (.iload_n 3, 1) := by decide +kernel
theorem dX6_cut_99 : decode cX6_cut 99 = .ok (.bipush 8, 2) := by decide +kernel
theorem dX6_cut_101 : decode cX6_cut 101 = .ok (.if_icmp .ge 17, 3) := by decide +kernel
theorem dX6_cut_104 : decode cX6_cut 104 = .ok (.lload 4, 2) := by decide +kernel
theorem dX6_cut_106 : decode cX6_cut 106 = .ok (.aload_n 0, 1) := by decide +kernel
theorem dX6_cut_107 : decode cX6_cut 107 = .ok (.iload_n 1, 1) := by decide +kernel
theorem dX6_cut_108 : decode cX6_cut 108 = .ok (.iload_n 3, 1) := by decide +kernel
theorem dX6_cut_109 : decode cX6_cut 109 = .ok (.iadd, 1) := by decide +kernel
theorem dX6_cut_110 : decode cX6_cut 110 = .ok (.invokevirtual 169, 3) := by decide +kernel
theorem dX6_cut_113 : decode cX6_cut 113 = .ok (.invokestatic 162, 3) := by decide +kernel
theorem dX6_cut_116 : decode cX6_cut 116 = .ok (.lstore 4, 2) := by decide +kernel
theorem dX6_cut_118 : decode cX6_cut 118 = .ok (.iinc 3 1, 3) := by decide +kernel
theorem dX6_cut_121 : decode cX6_cut 121 = .ok (.goto (-36), 3) := by decide +kernel
theorem dX6_cut_124 : decode cX6_cut 124 = .ok (.iload_n 3, 1) := by decide +kernel
theorem dX6_cut_125 : decode cX6_cut 125 = .ok (.bipush 8, 2) := by decide +kernel
theorem dX6_cut_127 : decode cX6_cut 127 = .ok (.if_icmp .le 7, 3) := by decide +kernel
theorem dX6_cut_130 : decode cX6_cut 130 = .ok (.iconst 3, 1) := by decide +kernel
theorem dX6_cut_131 : decode cX6_cut 131 = .ok (.goto 4, 3) := by decide +kernel
theorem dX6_cut_134 : decode cX6_cut 134 = .ok (.iconst 1, 1) := by decide +kernel
theorem dX6_cut_135 : decode cX6_cut 135 = .ok (.istore 6, 2) := by decide +kernel
theorem dX6_cut_137 : decode cX6_cut 137 = .ok (.iload_n 3, 1) := by decide +kernel
theorem dX6_cut_138 : decode cX6_cut 138 = .ok (.bipush 7, 2) := by decide +kernel
theorem dX6_cut_140 : decode cX6_cut 140 = .ok (.if_icmp .gt 39, 3) := by decide +kernel
theorem dX6_cut_143 : decode cX6_cut 143 = .ok (.iconst 0, 1) := by decide +kernel
theorem dX6_cut_144 : decode cX6_cut 144 = .ok (.istore 7, 2) := by decide +kernel
theorem dX6_cut_146 : decode cX6_cut 146 = .ok (.iload 7, 2) := by decide +kernel
theorem dX6_cut_148 : decode cX6_cut 148 = .ok (.bipush 14, 2) := by decide +kernel
theorem dX6_cut_150 : decode cX6_cut 150 = .ok (.if_icmp .ge 29, 3) := by decide +kernel
theorem dX6_cut_153 : decode cX6_cut 153 = .ok (.aload_n 0, 1) := by decide +kernel
theorem dX6_cut_154 : decode cX6_cut 154 = .ok (.getfield 34, 3) := by decide +kernel
theorem dX6_cut_157 : decode cX6_cut 157 = .ok (.iload 7, 2) := by decide +kernel
theorem dX6_cut_159 : decode cX6_cut 159 = .ok (.laload, 1) := by decide +kernel
theorem dX6_cut_160 : decode cX6_cut 160 = .ok (.lload 4, 2) := by decide +kernel
theorem dX6_cut_162 : decode cX6_cut 162 = .ok (.lcmp, 1) := by decide +kernel
theorem dX6_cut_163 : decode cX6_cut 163 = .ok (.ifCond .ne 10, 3) := by decide +kernel
theorem dX6_cut_166 : decode cX6_cut 166 = .ok (.bipush 20, 2) := by decide +kernel
theorem dX6_cut_168 : decode cX6_cut 168 = .ok (.iload 7, 2) := by decide +kernel
theorem dX6_cut_170 : decode cX6_cut 170 = .ok (.iadd, 1) := by decide +kernel
theorem dX6_cut_171 : decode cX6_cut 171 = .ok (.istore 6, 2) := by decide +kernel
theorem dX6_cut_173 : decode cX6_cut 173 = .ok (.iinc 7 1, 3) := by decide +kernel
theorem dX6_cut_176 : decode cX6_cut 176 = .ok (.goto (-30), 3) := by decide +kernel
theorem dX6_cut_179 : decode cX6_cut 179 = .ok (.aload_n 0, 1) := by decide +kernel
theorem dX6_cut_180 : decode cX6_cut 180 = .ok (.iload 6, 2) := by decide +kernel
theorem dX6_cut_182 : decode cX6_cut 182 = .ok (.iload_n 1, 1) := by decide +kernel
theorem dX6_cut_183 : decode cX6_cut 183 = .ok (.iconst 0, 1) := by decide +kernel
theorem dX6_cut_184 : decode cX6_cut 184 = .ok (.lload 4, 2) := by decide +kernel
theorem dX6_cut_186 : decode cX6_cut 186 = .ok (.invokevirtual 173, 3) := by decide +kernel
theorem dX6_cut_189 : decode cX6_cut 189 = .ok (.iload_n 1, 1) := by decide +kernel
theorem dX6_cut_190 : decode cX6_cut 190 = .ok (.iload_n 3, 1) := by decide +kernel
theorem dX6_cut_191 : decode cX6_cut 191 = .ok (.iadd, 1) := by decide +kernel
theorem dX6_cut_192 : decode cX6_cut 192 = .ok (.istore_n 1, 1) := by decide +kernel
theorem dX6_cut_193 : decode cX6_cut 193 = .ok (.goto 98, 3) := by decide +kernel
theorem dX6_cut_196 : decode cX6_cut 196 = .ok (.iload_n 2, 1) := by decide +kernel
theorem dX6_cut_197 : decode cX6_cut 197 = .ok (.invokestatic 181, 3) := by decide +kernel
theorem dX6_cut_200 : decode cX6_cut 200 = .ok (.ifCond .eq 75, 3) := by decide +kernel
theorem dX6_cut_203 : decode cX6_cut 203 = .ok (.iconst 0, 1) := by decide +kernel
theorem dX6_cut_204 : decode cX6_cut 204 = .ok (.istore_n 3, 1) := by decide +kernel
theorem dX6_cut_205 : decode cX6_cut 205 = .ok (.iconst 0, 1) := by decide +kernel
theorem dX6_cut_206 : decode cX6_cut 206 = .ok (.istore 4, 2) := by decide +kernel
theorem dX6_cut_208 : decode cX6_cut 208 = .ok (.aload_n 0, 1) := by decide +kernel
theorem dX6_cut_209 : decode cX6_cut 209 = .ok (.iload_n 1, 1) := by decide +kernel
theorem dX6_cut_210 : decode cX6_cut 210 = .ok (.iload_n 3, 1) := by decide +kernel
theorem dX6_cut_211 : decode cX6_cut 211 = .ok (.iadd, 1) := by decide +kernel
theorem dX6_cut_212 : decode cX6_cut 212 = .ok (.invokevirtual 169, 3) := by decide +kernel
theorem dX6_cut_215 : decode cX6_cut 215 = .ok (.invokestatic 181, 3) := by decide +kernel
theorem dX6_cut_218 : decode cX6_cut 218 = .ok (.ifCond .eq 32, 3) := by decide +kernel
theorem dX6_cut_221 : decode cX6_cut 221 = .ok (.iload_n 3, 1) := by decide +kernel
theorem dX6_cut_222 : decode cX6_cut 222 = .ok (.iconst 4, 1) := by decide +kernel
theorem dX6_cut_223 : decode cX6_cut 223 = .ok (.if_icmp .ge 21, 3) := by decide +kernel
theorem dX6_cut_226 : decode cX6_cut 226 = .ok (.bipush 10, 2) := by decide +kernel
theorem dX6_cut_228 : decode cX6_cut 228 = .ok (.iload 4, 2) := by decide +kernel
theorem dX6_cut_230 : decode cX6_cut 230 = .ok (.imul, 1) := by decide +kernel
theorem dX6_cut_231 : decode cX6_cut 231 = .ok (.aload_n 0, 1) := by decide +kernel
theorem dX6_cut_232 : decode cX6_cut 232 = .ok (.iload_n 1, 1) := by decide +kernel
theorem dX6_cut_233 : decode cX6_cut 233 = .ok (.iload_n 3, 1) := by decide +kernel
theorem dX6_cut_234 : decode cX6_cut 234 = .ok (.iadd, 1) := by decide +kernel
theorem dX6_cut_235 : decode cX6_cut 235 = .ok (.invokevirtual 169, 3) := by decide +kernel
theorem dX6_cut_238 : decode cX6_cut 238 = .ok (.iadd, 1) := by decide +kernel
theorem dX6_cut_239 : decode cX6_cut 239 = .ok (.bipush 48, 2) := by decide +kernel
theorem dX6_cut_241 : decode cX6_cut 241 = .ok (.isub, 1) := by decide +kernel
theorem dX6_cut_242 : decode cX6_cut 242 = .ok (.istore 4, 2) := by decide +kernel
theorem dX6_cut_244 : decode cX6_cut 244 = .ok (.iinc 3 1, 3) := by decide +kernel
theorem dX6_cut_247 : decode cX6_cut 247 = .ok (.goto (-39), 3) := by decide +kernel
theorem dX6_cut_250 : decode cX6_cut 250 = .ok (.aload_n 0, 1) := by decide +kernel
theorem dX6_cut_251 : decode cX6_cut 251 = .ok (.iload_n 3, 1) := by decide +kernel
theorem dX6_cut_252 : decode cX6_cut 252 = .ok (.iconst 4, 1) := by decide +kernel
theorem dX6_cut_253 : decode cX6_cut 253 = .ok (.if_icmp .le 7, 3) := by decide +kernel
theorem dX6_cut_256 : decode cX6_cut 256 = .ok (.iconst 3, 1) := by decide +kernel
theorem dX6_cut_257 : decode cX6_cut 257 = .ok (.goto 4, 3) := by decide +kernel
theorem dX6_cut_260 : decode cX6_cut 260 = .ok (.iconst 2, 1) := by decide +kernel
theorem dX6_cut_261 : decode cX6_cut 261 = .ok (.iload_n 1, 1) := by decide +kernel
theorem dX6_cut_262 : decode cX6_cut 262 = .ok (.iload 4, 2) := by decide +kernel
theorem dX6_cut_264 : decode cX6_cut 264 = .ok (.lconst 0, 1) := by decide +kernel
theorem dX6_cut_265 : decode cX6_cut 265 = .ok (.invokevirtual 173, 3) := by decide +kernel
theorem dX6_cut_268 : decode cX6_cut 268 = .ok (.iload_n 1, 1) := by decide +kernel
theorem dX6_cut_269 : decode cX6_cut 269 = .ok (.iload_n 3, 1) := by decide +kernel
theorem dX6_cut_270 : decode cX6_cut 270 = .ok (.iadd, 1) := by decide +kernel
theorem dX6_cut_271 : decode cX6_cut 271 = .ok (.istore_n 1, 1) := by decide +kernel
theorem dX6_cut_272 : decode cX6_cut 272 = .ok (.goto 19, 3) := by decide +kernel
theorem dX6_cut_275 : decode cX6_cut 275 = .ok (.iload_n 1, 1) := by decide +kernel
theorem dX6_cut_276 : decode cX6_cut 276 = .ok (.aload_n 0, 1) := by decide +kernel
theorem dX6_cut_277 : decode cX6_cut 277 = .ok (.iload_n 1, 1) := by decide +kernel
theorem dX6_cut_278 : decode cX6_cut 278 = .ok (.iload_n 2, 1) := by decide +kernel
theorem dX6_cut_279 : decode cX6_cut 279 = .ok (.aload_n 0, 1) := by decide +kernel
theorem dX6_cut_280 : decode cX6_cut 280 = .ok (.iload_n 1, 1) := by decide +kernel
theorem dX6_cut_281 : decode cX6_cut 281 = .ok (.iconst 1, 1) := by decide +kernel
theorem dX6_cut_282 : decode cX6_cut 282 = .ok (.iadd, 1) := by decide +kernel
theorem dX6_cut_283 : decode cX6_cut 283 = .ok (.invokevirtual 169, 3) := by decide +kernel
theorem dX6_cut_286 : decode cX6_cut 286 = .ok (.invokevirtual 184, 3) := by decide +kernel
theorem dX6_cut_289 : decode cX6_cut 289 = .ok (.iadd, 1) := by decide +kernel
theorem dX6_cut_290 : decode cX6_cut 290 = .ok (.istore_n 1, 1) := by decide +kernel
theorem dX6_cut_291 : decode cX6_cut 291 = .ok (.goto (-284), 3) := by decide +kernel
theorem dX6_cut_294 : decode cX6_cut 294 = .ok (.return_, 1) := by decide +kernel
set_option maxRecDepth 20000 in
theorem ggX6_sign_X6_token : GoodIn wsX6_sign wsX6_token := goodIn_r _ [5, 6, 7, 8, 9, 10, 11, 12, 13, 14, 15, 16, 17, 18, 19, 20, 21, 22, 23, 24, 25, 26, 27, 28, 29, 30, 31, 32, 33, 34, 35, 36, 37, 38, 39, 40, 41, 42, 43, 44, 45, 46, 47, 48, 49, 50, 51, 52, 53, 54, 55, 56, 57, 58, 59, 60, 61, 62, 63, 64, 65, 66, 67, 68, 69, 70] (by decide +kernel) (by decide +kernel)
set_option maxRecDepth 20000 in
theorem gX6_sign_X6_token : GoodIn wsX6_sign (wsV RX6 173 RX6 yX6_token wsX6_token) := goodIn_app (goodIn_of _ (by decide +kernel)) ggX6_sign_X6_token
theorem dX6_sign_0 : decode cX6_sign 0 = .ok (.iload_n 3, 1) := by decide +kernel
theorem dX6_sign_1 : decode cX6_sign 1 = .ok (.bipush 61, 2) := by decide +kernel
theorem dX6_sign_3 : decode cX6_sign 3 = .ok (.if_icmp .eq 7, 3) := by decide +kernel
theorem dX6_sign_6 : decode cX6_sign 6 = .ok (.iconst 0, 1) := by decide +kernel
theorem dX6_sign_7 : decode cX6_sign 7 = .ok (.goto 37, 3) := by decide +kernel
theorem dX6_sign_10 : decode cX6_sign 10 = .ok (.iload_n 2, 1) := by decide +kernel
theorem dX6_sign_11 : decode cX6_sign 11 = .ok (.bipush 61, 2) := by decide +kernel
theorem dX6_sign_13 : decode cX6_sign 13 = .ok (.if_icmp .ne 8, 3) := by decide +kernel
theorem dX6_sign_16 : decode cX6_sign 16 = .ok (.bipush 11, 2) := by decide +kernel
theorem dX6_sign_18 : decode cX6_sign 18 = .ok (.goto 26, 3) := by decide +kernel
theorem dX6_sign_21 : decode cX6_sign 21 = .ok (.iload_n 2, 1) := by decide +kernel
theorem dX6_sign_22 : decode cX6_sign 22 = .ok (.bipush 33, 2) := by decide +kernel
theorem dX6_sign_24 : decode cX6_sign 24 = .ok (.if_icmp .ne 8, 3) := by decide +kernel
theorem dX6_sign_27 : decode cX6_sign 27 = .ok (.bipush 12, 2) := by decide +kernel
theorem dX6_sign_29 : decode cX6_sign 29 = .ok (.goto 15, 3) := by decide +kernel
theorem dX6_sign_32 : decode cX6_sign 32 = .ok (.iload_n 2, 1) := by decide +kernel
theorem dX6_sign_33 : decode cX6_sign 33 = .ok (.bipush 60, 2) := by decide +kernel
theorem dX6_sign_35 : decode cX6_sign 35 = .ok (.if_icmp .ne 8, 3) := by decide +kernel
theorem dX6_sign_38 : decode cX6_sign 38 = .ok (.bipush 14, 2) := by decide +kernel
theorem dX6_sign_40 : decode cX6_sign 40 = .ok (.goto 4, 3) := by decide +kernel
theorem dX6_sign_43 : decode cX6_sign 43 = .ok (.iconst 0, 1) := by decide +kernel
theorem dX6_sign_44 : decode cX6_sign 44 = .ok (.istore 4, 2) := by decide +kernel
theorem dX6_sign_46 : decode cX6_sign 46 = .ok (.iconst 3, 1) := by decide +kernel
theorem dX6_sign_47 : decode cX6_sign 47 = .ok (.istore 5, 2) := by decide +kernel
theorem dX6_sign_49 : decode cX6_sign 49 = .ok (.iload 4, 2) := by decide +kernel
theorem dX6_sign_51 : decode cX6_sign 51 = .ok (.ifCond .le 10, 3) := by decide +kernel
theorem dX6_sign_54 : decode cX6_sign 54 = .ok (.iload 4, 2) := by decide +kernel
theorem dX6_sign_56 : decode cX6_sign 56 = .ok (.istore 5, 2) := by decide +kernel
theorem dX6_sign_58 : decode cX6_sign 58 = .ok (.goto 90, 3) := by decide +kernel
theorem dX6_sign_61 : decode cX6_sign 61 = .ok (.iload_n 2, 1) := by decide +kernel
theorem dX6_sign_62 : decode cX6_sign 62 = .ok (.bipush 59, 2) := by decide +kernel
theorem dX6_sign_64 : decode cX6_sign 64 = .ok (.if_icmp .ne 9, 3) := by decide +kernel
theorem dX6_sign_67 : decode cX6_sign 67 = .ok (.iconst 4, 1) := by decide +kernel
theorem dX6_sign_68 : decode cX6_sign 68 = .ok (.istore 5, 2) := by decide +kernel
theorem dX6_sign_70 : decode cX6_sign 70 = .ok (.goto 78, 3) := by decide +kernel
theorem dX6_sign_73 : decode cX6_sign 73 = .ok (.iload_n 2, 1) := by decide +kernel
theorem dX6_sign_74 : decode cX6_sign 74 = .ok (.bipush 40, 2) := by decide +kernel
theorem dX6_sign_76 : decode cX6_sign 76 = .ok (.if_icmp .ne 10, 3) := by decide +kernel
theorem dX6_sign_79 : decode cX6_sign 79 = .ok (.bipush 6, 2) := by decide +kernel
theorem dX6_sign_81 : decode cX6_sign 81 = .ok (.istore 5, 2) := by decide +kernel
theorem dX6_sign_83 : decode cX6_sign 83 = .ok (.goto 65, 3) := by decide +kernel
theorem dX6_sign_86 : decode cX6_sign 86 = .ok (.iload_n 2, 1) := by decide +kernel
theorem dX6_sign_87 : decode cX6_sign 87 = .ok (.bipush 41, 2) := by decide +kernel
theorem dX6_sign_89 : decode cX6_sign 89 = .ok (.if_icmp .ne 10, 3) := by decide +kernel
theorem dX6_sign_92 : decode cX6_sign 92 = .ok (.bipush 7, 2) := by decide +kernel
theorem dX6_sign_94 : decode cX6_sign 94 = .ok (.istore 5, 2) := by decide +kernel
theorem dX6_sign_96 : decode cX6_sign 96 = .ok (.goto 52, 3) := by decide +kernel
theorem dX6_sign_99 : decode cX6_sign 99 = .ok (.iload_n 2, 1) := by decide +kernel
theorem dX6_sign_100 : decode cX6_sign 100 = .ok (.bipush 43, 2) := by decide +kernel
theorem dX6_sign_102 : decode cX6_sign 102 = .ok (.if_icmp .ne 10, 3) := by decide +kernel
theorem dX6_sign_105 : decode cX6_sign 105 = .ok (.bipush 8, 2) := by decide +kernel
theorem dX6_sign_107 : decode cX6_sign 107 = .ok (.istore 5, 2) := by decide +kernel
theorem dX6_sign_109 : decode cX6_sign 109 = .ok (.goto 39, 3) := by decide +kernel
theorem dX6_sign_112 : decode cX6_sign 112 = .ok (.iload_n 2, 1) := by decide +kernel
theorem dX6_sign_113 : decode cX6_sign 113 = .ok (.bipush 45, 2) := by decide +kernel
theorem dX6_sign_115 : decode cX6_sign 115 = .ok (.if_icmp .ne 10, 3) := by decide +kernel
theorem dX6_sign_118 : decode cX6_sign 118 = .ok (.bipush 9, 2) := by decide +kernel
theorem dX6_sign_120 : decode cX6_sign 120 = .ok (.istore 5, 2) := by decide +kernel
theorem dX6_sign_122 : decode cX6_sign 122 = .ok (.goto 26, 3) := by decide +kernel
theorem dX6_sign_125 : decode cX6_sign 125 = .ok (.iload_n 2, 1) := by decide +kernel
theorem dX6_sign_126 : decode cX6_sign 126 = .ok (.bipush 42, 2) := by decide +kernel
theorem dX6_sign_128 : decode cX6_sign 128 = .ok (.if_icmp .ne 10, 3) := by decide +kernel
theorem dX6_sign_131 : decode cX6_sign 131 = .ok (.bipush 10, 2) := by decide +kernel
theorem dX6_sign_133 : decode cX6_sign 133 = .ok (.istore 5, 2) := by decide +kernel
theorem dX6_sign_135 : decode cX6_sign 135 = .ok (.goto 13, 3) := by decide +kernel
theorem dX6_sign_138 : decode cX6_sign 138 = .ok (.iload_n 2, 1) := by decide +kernel
theorem dX6_sign_139 : decode cX6_sign 139 = .ok (.bipush 60, 2) := by decide +kernel
theorem dX6_sign_141 : decode cX6_sign 141 = .ok (.if_icmp .ne 7, 3) := by decide +kernel
theorem dX6_sign_144 : decode cX6_sign 144 = .ok (.bipush 13, 2) := by decide +kernel
theorem dX6_sign_146 : decode cX6_sign 146 = .ok (.istore 5, 2) := by decide +kernel
theorem dX6_sign_148 : decode cX6_sign 148 = .ok (.aload_n 0, 1) := by decide +kernel
theorem dX6_sign_149 : decode cX6_sign 149 = .ok (.iload 5, 2) := by decide +kernel
theorem dX6_sign_151 : decode cX6_sign 151 = .ok (.iload_n 1, 1) := by decide +kernel
theorem dX6_sign_152 : decode cX6_sign 152 = .ok (.iconst 0, 1) := by decide +kernel
theorem dX6_sign_153 : decode cX6_sign 153 = .ok (.lconst 0, 1) := by decide +kernel
theorem dX6_sign_154 : decode cX6_sign 154 = .ok (.invokevirtual 173, 3) := by decide +kernel
theorem dX6_sign_157 : decode cX6_sign 157 = .ok (.iload 4, 2) := by decide +kernel
theorem dX6_sign_159 : decode cX6_sign 159 = .ok (.ifCond .le 7, 3) := by decide +kernel
theorem dX6_sign_162 : decode cX6_sign 162 = .ok (.iconst 2, 1) := by decide +kernel
theorem dX6_sign_163 : decode cX6_sign 163 = .ok (.goto 4, 3) := by decide +kernel
theorem dX6_sign_166 : decode cX6_sign 166 = .ok (.iconst 1, 1) := by decide +kernel
theorem dX6_sign_167 : decode cX6_sign 167 = .ok (.ireturn, 1) := by decide +kernel
theorem dX6_is_0 : decode cX6_is 0 = .ok (.aload_n 0, 1) := by decide +kernel
theorem dX6_is_1 : decode cX6_is 1 = .ok (.getfield 188, 3) := by decide +kernel
theorem dX6_is_4 : decode cX6_is 4 = .ok (.ifCond .ne 20, 3) := by decide +kernel
theorem dX6_is_7 : decode cX6_is 7 = .ok (.aload_n 0, 1) := by decide +kernel
theorem dX6_is_8 : decode cX6_is 8 = .ok (.getfield 20, 3) := by decide +kernel
theorem dX6_is_11 : decode cX6_is 11 = .ok (.aload_n 0, 1) := by decide +kernel
theorem dX6_is_12 : decode cX6_is 12 = .ok (.getfield 191, 3) := by decide +kernel
theorem dX6_is_15 : decode cX6_is 15 = .ok (.iaload, 1) := by decide +kernel
theorem dX6_is_16 : decode cX6_is 16 = .ok (.iload_n 1, 1) := by decide +kernel
theorem dX6_is_17 : decode cX6_is 17 = .ok (.if_icmp .ne 7, 3) := by decide +kernel
theorem dX6_is_20 : decode cX6_is 20 = .ok (.iconst 1, 1) := by decide +kernel
theorem dX6_is_21 : decode cX6_is 21 = .ok (.goto 4, 3) := by decide +kernel
theorem dX6_is_24 : decode cX6_is 24 = .ok (.iconst 0, 1) := by decide +kernel
theorem dX6_is_25 : decode cX6_is 25 = .ok (.ireturn, 1) := by decide +kernel
theorem dX6_fail_0 : decode cX6_fail 0 = .ok (.aload_n 0, 1) := by decide +kernel
theorem dX6_fail_1 : decode cX6_fail 1 = .ok (.getfield 188, 3) := by decide +kernel
theorem dX6_fail_4 : decode cX6_fail 4 = .ok (.ifCond .le 4, 3) := by decide +kernel
theorem dX6_fail_7 : decode cX6_fail 7 = .ok (.return_, 1) := by decide +kernel
theorem dX6_fail_8 : decode cX6_fail 8 = .ok (.aload_n 0, 1) := by decide +kernel
theorem dX6_fail_9 : decode cX6_fail 9 = .ok (.iload_n 1, 1) := by decide +kernel
theorem dX6_fail_10 : decode cX6_fail 10 = .ok (.putfield 188, 3) := by decide +kernel
theorem dX6_fail_13 : decode cX6_fail 13 = .ok (.aload_n 0, 1) := by decide +kernel
theorem dX6_fail_14 : decode cX6_fail 14 = .ok (.aload_n 0, 1) := by decide +kernel
theorem dX6_fail_15 : decode cX6_fail 15 = .ok (.getfield 24, 3) := by decide +kernel
theorem dX6_fail_18 : decode cX6_fail 18 = .ok (.aload_n 0, 1) := by decide +kernel
theorem dX6_fail_19 : decode cX6_fail 19 = .ok (.getfield 191, 3) := by decide +kernel
theorem dX6_fail_22 : decode cX6_fail 22 = .ok (.iaload, 1) := by decide +kernel
theorem dX6_fail_23 : decode cX6_fail 23 = .ok (.putfield 194, 3) := by decide +kernel
theorem dX6_fail_26 : decode cX6_fail 26 = .ok (.return_, 1) := by decide +kernel
set_option maxRecDepth 20000 in
theorem ggX6_next_X6_fail : GoodIn wsX6_next wsX6_fail := goodIn_r _ [6, 7, 8, 1, 9, 10, 11, 12, 13, 14, 15, 16, 17, 18, 19, 20, 21, 22, 23, 24, 25, 26, 27, 28, 29, 30, 31, 32, 33, 34, 35, 36, 37, 38, 39, 40, 41, 42, 43, 44, 45, 46, 47, 48, 49, 50, 51, 52, 53, 54, 55, 56, 57, 58, 59, 60, 61, 62, 63, 64, 65, 66, 67, 68, 69] (by decide +kernel) (by decide +kernel)
set_option maxRecDepth 20000 in
theorem gX6_next_X6_fail : GoodIn wsX6_next (wsV RX6 203 RX6 yX6_fail wsX6_fail) := goodIn_app (goodIn_of _ (by decide +kernel)) ggX6_next_X6_fail
theorem dX6_next_0 : decode cX6_next 0 = .ok (.aload_n 0, 1) := by decide +kernel
theorem dX6_next_1 : decode cX6_next 1 = .ok (.getfield 191, 3) := by decide +kernel
theorem dX6_next_4 : decode cX6_next 4 = .ok (.sipush 400, 3) := by decide +kernel
theorem dX6_next_7 : decode cX6_next 7 = .ok (.if_icmp .ne 11, 3) := by decide +kernel
theorem dX6_next_10 : decode cX6_next 10 = .ok (.aload_n 0, 1) := by decide +kernel
theorem dX6_next_11 : decode cX6_next 11 = .ok (.iconst 2, 1) := by decide +kernel
theorem dX6_next_12 : decode cX6_next 12 = .ok (.invokevirtual 203, 3) := by decide +kernel
theorem dX6_next_15 : decode cX6_next 15 = .ok (.goto 13, 3) := by decide +kernel
theorem dX6_next_18 : decode cX6_next 18 = .ok (.aload_n 0, 1) := by decide +kernel
theorem dX6_next_19 : decode cX6_next 19 = .ok (.dup, 1) := by decide +kernel
theorem dX6_next_20 : decode cX6_next 20 = .ok (.getfield 191, 3) := by decide +kernel
theorem dX6_next_23 : decode cX6_next 23 = .ok (.iconst 1, 1) := by decide +kernel
theorem dX6_next_24 : decode cX6_next 24 = .ok (.iadd, 1) := by decide +kernel
theorem dX6_next_25 : decode cX6_next 25 = .ok (.putfield 191, 3) := by decide +kernel
theorem dX6_next_28 : decode cX6_next 28 = .ok (.return_, 1) := by decide +kernel
set_option maxRecDepth 20000 in
theorem ggX6_must_X6_is : GoodIn wsX6_must wsX6_is := goodIn_r _ [5, 6, 7, 8, 19, 20, 21, 22, 23, 24, 25, 26, 27, 28, 29, 30, 31, 32, 33, 34, 35, 36, 37, 38, 39, 40, 41, 42, 43, 44, 45, 46, 47, 48, 49, 50, 51, 52, 53, 54, 55, 56, 57, 58, 59, 60, 61, 62, 63, 64, 65, 66, 67, 68, 69, 70, 71, 72, 73, 74, 75, 76, 77, 78] (by decide +kernel) (by decide +kernel)
set_option maxRecDepth 20000 in
theorem gX6_must_X6_is : GoodIn wsX6_must (wsV RX6 206 RX6 yX6_is wsX6_is) := goodIn_app (goodIn_of _ (by decide +kernel)) ggX6_must_X6_is
set_option maxRecDepth 20000 in
theorem ggX6_must_X6_next : GoodIn wsX6_must wsX6_next := goodIn_r _ [12, 8, 13, 14, 15, 4, 16, 6, 17, 18, 19, 20, 21, 22, 23, 24, 25, 26, 27, 28, 29, 30, 31, 32, 33, 34, 35, 36, 37, 38, 39, 40, 41, 42, 43, 44, 45, 46, 47, 48, 49, 50, 51, 52, 53, 54, 55, 56, 57, 58, 59, 60, 61, 62, 63, 64, 65, 66, 67, 68, 69, 70, 71, 72, 73, 74, 75, 76, 77, 78] (by decide +kernel) (by decide +kernel)
set_option maxRecDepth 20000 in
theorem gX6_must_X6_next : GoodIn wsX6_must (wsV RX6 209 RX6 yX6_next wsX6_next) := goodIn_app (goodIn_of _ (by decide +kernel)) ggX6_must_X6_next
set_option maxRecDepth 20000 in
theorem ggX6_must_X6_fail : GoodIn wsX6_must wsX6_fail := goodIn_r _ [16, 6, 17, 8, 18, 19, 20, 21, 22, 23, 24, 25, 26, 27, 28, 29, 30, 31, 32, 33, 34, 35, 36, 37, 38, 39, 40, 41, 42, 43, 44, 45, 46, 47, 48, 49, 50, 51, 52, 53, 54, 55, 56, 57, 58, 59, 60, 61, 62, 63, 64, 65, 66, 67, 68, 69, 70, 71, 72, 73, 74, 75, 76, 77, 78] (by decide +kernel) (by decide +kernel)
set_option maxRecDepth 20000 in
theorem gX6_must_X6_fail : GoodIn wsX6_must (wsV RX6 203 RX6 yX6_fail wsX6_fail) := goodIn_app (goodIn_of _ (by decide +kernel)) ggX6_must_X6_fail
theorem dX6_must_0 : decode cX6_must 0 = .ok (.aload_n 0, 1) := by decide +kernel
theorem dX6_must_1 : decode cX6_must 1 = .ok (.iload_n 1, 1) := by decide +kernel
theorem dX6_must_2 : decode cX6_must 2 = .ok (.invokevirtual 206, 3) := by decide +kernel
theorem dX6_must_5 : decode cX6_must 5 = .ok (.ifCond .eq 10, 3) := by decide +kernel
theorem dX6_must_8 : decode cX6_must 8 = .ok (.aload_n 0, 1) := by decide +kernel
theorem dX6_must_9 : decode cX6_must 9 = .ok (.invokevirtual 209, 3) := by decide +kernel
theorem dX6_must_12 : decode cX6_must 12 = .ok (.goto 8, 3) := by decide +kernel
theorem dX6_must_15 : decode cX6_must 15 = .ok (.aload_n 0, 1) := by decide +kernel
theorem dX6_must_16 : decode cX6_must 16 = .ok (.iconst 1, 1) := by decide +kernel
theorem dX6_must_17 : decode cX6_must 17 = .ok (.invokevirtual 203, 3) := by decide +kernel
theorem dX6_must_20 : decode cX6_must 20 = .ok (.return_, 1) := by decide +kernel
set_option maxRecDepth 20000 in
theorem ggX6_read_X6_isLand : GoodIn wsX6_read wsX6_isLand := goodIn_r _ [21, 22, 103, 104, 105, 106, 107, 108, 109, 110, 111, 112, 113, 114, 115, 116, 117, 118, 119, 120, 121, 122, 123, 124, 125, 126, 127, 128, 129, 130, 131, 132, 133, 134, 135, 136, 137, 138, 139, 140, 141, 142, 143, 144, 145, 146, 147, 148, 149, 150, 151, 152, 153, 154, 155, 156, 157, 158, 159, 160, 161, 162] (by decide +kernel) (by decide +kernel)
set_option maxRecDepth 20000 in
theorem gX6_read_X6_isLand : GoodIn wsX6_read (wsV RX6 212 RX6 yX6_isLand wsX6_isLand) := goodIn_app (goodIn_of _ (by decide +kernel)) ggX6_read_X6_isLand
set_option maxRecDepth 20000 in
theorem ggX6_read_X6_cut : GoodIn wsX6_read wsX6_cut := goodIn_r _ [26, 27, 2, 28, 29, 30, 31, 20, 32, 3, 33, 34, 35, 36, 37, 38, 39, 40, 41, 42, 43, 44, 45, 46, 47, 48, 49, 50, 51, 52, 53, 54, 103, 104, 105, 106, 107, 108, 109, 110, 111, 112, 113, 114, 115, 116, 117, 118, 119, 120, 121, 122, 123, 124, 125, 126, 127, 128, 129, 130, 131, 132, 133, 134, 135, 136, 137, 138, 139, 140, 141, 142, 143, 144, 145, 146, 147, 148, 149, 150, 151, 152, 153, 154, 155, 156, 157, 158, 159, 160, 161, 162] (by decide +kernel) (by decide +kernel)
set_option maxRecDepth 20000 in
theorem gX6_read_X6_cut : GoodIn wsX6_read (wsV RX6 215 RX6 yX6_cut wsX6_cut) := goodIn_app (goodIn_of _ (by decide +kernel)) ggX6_read_X6_cut
set_option maxRecDepth 20000 in
theorem ggX6_read_X6_is : GoodIn wsX6_read wsX6_is := goodIn_r _ [58, 7, 37, 5, 103, 104, 105, 106, 107, 108, 109, 110, 111, 112, 113, 114, 115, 116, 117, 118, 119, 120, 121, 122, 123, 124, 125, 126, 127, 128, 129, 130, 131, 132, 133, 134, 135, 136, 137, 138, 139, 140, 141, 142, 143, 144, 145, 146, 147, 148, 149, 150, 151, 152, 153, 154, 155, 156, 157, 158, 159, 160, 161, 162] (by decide +kernel) (by decide +kernel)
set_option maxRecDepth 20000 in
theorem gX6_read_X6_is : GoodIn wsX6_read (wsV RX6 206 RX6 yX6_is wsX6_is) := goodIn_app (goodIn_of _ (by decide +kernel)) ggX6_read_X6_is
set_option maxRecDepth 20000 in
theorem ggX6_read_X6_tellRule : GoodIn wsX6_read wsX6_tellRule := goodIn_r _ [62, 11, 10, 7, 63, 37, 5, 64, 12, 65, 55, 56, 57, 20, 58, 66, 67, 68, 69, 38, 14, 70, 71, 72, 73, 74, 75, 76, 77, 78, 79, 80, 81, 13, 82, 83, 84, 85, 86, 87, 88, 89, 90, 91, 6, 92, 39, 93, 94, 95, 96, 97, 98, 99, 100, 101, 102, 103, 104, 105, 106, 107, 108, 109, 110, 111, 112, 113, 114, 115, 116, 117, 118, 119, 120, 121, 122, 123, 124, 125, 126, 127, 128, 129, 130, 131, 132, 133, 134, 135, 136, 137, 138, 139, 140, 141, 142, 143, 144, 145, 146, 147, 148, 149, 150, 151, 152, 153, 154, 155, 156, 157, 158, 159, 160, 161, 162] (by decide +kernel) (by decide +kernel)
set_option maxRecDepth 20000 in
theorem gX6_read_X6_tellRule : GoodIn wsX6_read (wsV RX6 227 RX6 yX6_tellRule wsX6_tellRule) := goodIn_app (goodIn_of _ (by decide +kernel)) ggX6_read_X6_tellRule
theorem dX6_read_0 : decode cX6_read 0 = .ok (.aload_n 0, 1) := by decide +kernel
theorem dX6_read_1 : decode cX6_read 1 = .ok (.iload_n 1, 1) := by decide +kernel
theorem dX6_read_2 : decode cX6_read 2 = .ok (.invokevirtual 212, 3) := by decide +kernel
theorem dX6_read_5 : decode cX6_read 5 = .ok (.ifCond .ne 5, 3) := by decide +kernel
theorem dX6_read_8 : decode cX6_read 8 = .ok (.iconst (-1), 1) := by decide +kernel
theorem dX6_read_9 : decode cX6_read 9 = .ok (.ireturn, 1) := by decide +kernel
theorem dX6_read_10 : decode cX6_read 10 = .ok (.aload_n 0, 1) := by decide +kernel
theorem dX6_read_11 : decode cX6_read 11 = .ok (.aload_n 0, 1) := by decide +kernel
theorem dX6_read_12 : decode cX6_read 12 = .ok (.getfield 150, 3) := by decide +kernel
theorem dX6_read_15 : decode cX6_read 15 = .ok (.putfield 157, 3) := by decide +kernel
theorem dX6_read_18 : decode cX6_read 18 = .ok (.iconst 0, 1) := by decide +kernel
theorem dX6_read_19 : decode cX6_read 19 = .ok (.istore_n 2, 1) := by decide +kernel
theorem dX6_read_20 : decode cX6_read 20 = .ok (.iload_n 2, 1) := by decide +kernel
theorem dX6_read_21 : decode cX6_read 21 = .ok (.aload_n 0, 1) := by decide +kernel
theorem dX6_read_22 : decode cX6_read 22 = .ok (.getfield 157, 3) := by decide +kernel
theorem dX6_read_25 : decode cX6_read 25 = .ok (.if_icmp .ge 21, 3) := by decide +kernel
theorem dX6_read_28 : decode cX6_read 28 = .ok (.aload_n 0, 1) := by decide +kernel
theorem dX6_read_29 : decode cX6_read 29 = .ok (.getfield 17, 3) := by decide +kernel
theorem dX6_read_32 : decode cX6_read 32 = .ok (.iload_n 2, 1) := by decide +kernel
theorem dX6_read_33 : decode cX6_read 33 = .ok (.aload_n 0, 1) := by decide +kernel
theorem dX6_read_34 : decode cX6_read 34 = .ok (.getfield 13, 3) := by decide +kernel
theorem dX6_read_37 : decode cX6_read 37 = .ok (.iload_n 2, 1) := by decide +kernel
theorem dX6_read_38 : decode cX6_read 38 = .ok (.baload, 1) := by decide +kernel
theorem dX6_read_39 : decode cX6_read 39 = .ok (.bastore, 1) := by decide +kernel
theorem dX6_read_40 : decode cX6_read 40 = .ok (.iinc 2 1, 3) := by decide +kernel
theorem dX6_read_43 : decode cX6_read 43 = .ok (.goto (-23), 3) := by decide +kernel
theorem dX6_read_46 : decode cX6_read 46 = .ok (.aload_n 0, 1) := by decide +kernel
theorem dX6_read_47 : decode cX6_read 47 = .ok (.iconst 0, 1) := by decide +kernel
theorem dX6_read_48 : decode cX6_read 48 = .ok (.putfield 150, 3) := by decide +kernel
theorem dX6_read_51 : decode cX6_read 51 = .ok (.aload_n 0, 1) := by decide +kernel
theorem dX6_read_52 : decode cX6_read 52 = .ok (.invokevirtual 215, 3) := by decide +kernel
theorem dX6_read_55 : decode cX6_read 55 = .ok (.aload_n 0, 1) := by decide +kernel
theorem dX6_read_56 : decode cX6_read 56 = .ok (.iconst 0, 1) := by decide +kernel
theorem dX6_read_57 : decode cX6_read 57 = .ok (.putfield 191, 3) := by decide +kernel
theorem dX6_read_60 : decode cX6_read 60 = .ok (.aload_n 0, 1) := by decide +kernel
theorem dX6_read_61 : decode cX6_read 61 = .ok (.iconst 0, 1) := by decide +kernel
theorem dX6_read_62 : decode cX6_read 62 = .ok (.putfield 218, 3) := by decide +kernel
theorem dX6_read_65 : decode cX6_read 65 = .ok (.aload_n 0, 1) := by decide +kernel
theorem dX6_read_66 : decode cX6_read 66 = .ok (.iconst 0, 1) := by decide +kernel
theorem dX6_read_67 : decode cX6_read 67 = .ok (.putfield 188, 3) := by decide +kernel
theorem dX6_read_70 : decode cX6_read 70 = .ok (.aload_n 0, 1) := by decide +kernel
theorem dX6_read_71 : decode cX6_read 71 = .ok (.iconst 0, 1) := by decide +kernel
theorem dX6_read_72 : decode cX6_read 72 = .ok (.putfield 197, 3) := by decide +kernel
theorem dX6_read_75 : decode cX6_read 75 = .ok (.aload_n 0, 1) := by decide +kernel
theorem dX6_read_76 : decode cX6_read 76 = .ok (.iconst 2, 1) := by decide +kernel
theorem dX6_read_77 : decode cX6_read 77 = .ok (.iload_n 1, 1) := by decide +kernel
theorem dX6_read_78 : decode cX6_read 78 = .ok (.imul, 1) := by decide +kernel
theorem dX6_read_79 : decode cX6_read 79 = .ok (.iconst 1, 1) := by decide +kernel
theorem dX6_read_80 : decode cX6_read 80 = .ok (.iadd, 1) := by decide +kernel
theorem dX6_read_81 : decode cX6_read 81 = .ok (.aload_n 0, 1) := by decide +kernel
theorem dX6_read_82 : decode cX6_read 82 = .ok (.getfield 40, 3) := by decide +kernel
theorem dX6_read_85 : decode cX6_read 85 = .ok (.iload_n 1, 1) := by decide +kernel
theorem dX6_read_86 : decode cX6_read 86 = .ok (.iaload, 1) := by decide +kernel
theorem dX6_read_87 : decode cX6_read 87 = .ok (.isub, 1) := by decide +kernel
theorem dX6_read_88 : decode cX6_read 88 = .ok (.putfield 221, 3) := by decide +kernel
theorem dX6_read_91 : decode cX6_read 91 = .ok (.aload_n 0, 1) := by decide +kernel
theorem dX6_read_92 : decode cX6_read 92 = .ok (.getfield 43, 3) := by decide +kernel
theorem dX6_read_95 : decode cX6_read 95 = .ok (.aload_n 0, 1) := by decide +kernel
theorem dX6_read_96 : decode cX6_read 96 = .ok (.getfield 221, 3) := by decide +kernel
theorem dX6_read_99 : decode cX6_read 99 = .ok (.iconst 0, 1) := by decide +kernel
theorem dX6_read_100 : decode cX6_read 100 = .ok (.iastore, 1) := by decide +kernel
theorem dX6_read_101 : decode cX6_read 101 = .ok (.aload_n 0, 1) := by decide +kernel
theorem dX6_read_102 : decode cX6_read 102 = .ok (.getfield 55, 3) := by decide +kernel
theorem dX6_read_105 : decode cX6_read 105 = .ok (.aload_n 0, 1) := by decide +kernel
theorem dX6_read_106 : decode cX6_read 106 = .ok (.getfield 221, 3) := by decide +kernel
theorem dX6_read_109 : decode cX6_read 109 = .ok (.iconst 0, 1) := by decide +kernel
theorem dX6_read_110 : decode cX6_read 110 = .ok (.iastore, 1) := by decide +kernel
theorem dX6_read_111 : decode cX6_read 111 = .ok (.aload_n 0, 1) := by decide +kernel
theorem dX6_read_112 : decode cX6_read 112 = .ok (.sipush 500, 3) := by decide +kernel
theorem dX6_read_115 : decode cX6_read 115 = .ok (.aload_n 0, 1) := by decide +kernel
theorem dX6_read_116 : decode cX6_read 116 = .ok (.getfield 221, 3) := by decide +kernel
theorem dX6_read_119 : decode cX6_read 119 = .ok (.imul, 1) := by decide +kernel
theorem dX6_read_120 : decode cX6_read 120 = .ok (.putfield 224, 3) := by decide +kernel
theorem dX6_read_123 : decode cX6_read 123 = .ok (.aload_n 0, 1) := by decide +kernel
theorem dX6_read_124 : decode cX6_read 124 = .ok (.getfield 188, 3) := by decide +kernel
theorem dX6_read_127 : decode cX6_read 127 = .ok (.ifCond .ne 18, 3) := by decide +kernel
theorem dX6_read_130 : decode cX6_read 130 = .ok (.aload_n 0, 1) := by decide +kernel
theorem dX6_read_131 : decode cX6_read 131 = .ok (.iconst 0, 1) := by decide +kernel
theorem dX6_read_132 : decode cX6_read 132 = .ok (.invokevirtual 206, 3) := by decide +kernel
theorem dX6_read_135 : decode cX6_read 135 = .ok (.ifCond .ne 10, 3) := by decide +kernel
theorem dX6_read_138 : decode cX6_read 138 = .ok (.aload_n 0, 1) := by decide +kernel
theorem dX6_read_139 : decode cX6_read 139 = .ok (.invokevirtual 227, 3) := by decide +kernel
theorem dX6_read_142 : decode cX6_read 142 = .ok (.goto (-19), 3) := by decide +kernel
theorem dX6_read_145 : decode cX6_read 145 = .ok (.aload_n 0, 1) := by decide +kernel
theorem dX6_read_146 : decode cX6_read 146 = .ok (.aload_n 0, 1) := by decide +kernel
theorem dX6_read_147 : decode cX6_read 147 = .ok (.getfield 188, 3) := by decide +kernel
theorem dX6_read_150 : decode cX6_read 150 = .ok (.ifCond .le 10, 3) := by decide +kernel
theorem dX6_read_153 : decode cX6_read 153 = .ok (.aload_n 0, 1) := by decide +kernel
theorem dX6_read_154 : decode cX6_read 154 = .ok (.getfield 194, 3) := by decide +kernel
theorem dX6_read_157 : decode cX6_read 157 = .ok (.goto 4, 3) := by decide +kernel
theorem dX6_read_160 : decode cX6_read 160 = .ok (.iconst (-1), 1) := by decide +kernel
theorem dX6_read_161 : decode cX6_read 161 = .ok (.putfield 37, 3) := by decide +kernel
theorem dX6_read_164 : decode cX6_read 164 = .ok (.aload_n 0, 1) := by decide +kernel
theorem dX6_read_165 : decode cX6_read 165 = .ok (.getfield 188, 3) := by decide +kernel
theorem dX6_read_168 : decode cX6_read 168 = .ok (.ifCond .le 8, 3) := by decide +kernel
theorem dX6_read_171 : decode cX6_read 171 = .ok (.aload_n 0, 1) := by decide +kernel
theorem dX6_read_172 : decode cX6_read 172 = .ok (.getfield 188, 3) := by decide +kernel
theorem dX6_read_175 : decode cX6_read 175 = .ok (.ireturn, 1) := by decide +kernel
theorem dX6_read_176 : decode cX6_read 176 = .ok (.aload_n 0, 1) := by decide +kernel
theorem dX6_read_177 : decode cX6_read 177 = .ok (.getfield 40, 3) := by decide +kernel
theorem dX6_read_180 : decode cX6_read 180 = .ok (.iload_n 1, 1) := by decide +kernel
theorem dX6_read_181 : decode cX6_read 181 = .ok (.iconst 1, 1) := by decide +kernel
theorem dX6_read_182 : decode cX6_read 182 = .ok (.aload_n 0, 1) := by decide +kernel
theorem dX6_read_183 : decode cX6_read 183 = .ok (.getfield 40, 3) := by decide +kernel
theorem dX6_read_186 : decode cX6_read 186 = .ok (.iload_n 1, 1) := by decide +kernel
theorem dX6_read_187 : decode cX6_read 187 = .ok (.iaload, 1) := by decide +kernel
theorem dX6_read_188 : decode cX6_read 188 = .ok (.isub, 1) := by decide +kernel
theorem dX6_read_189 : decode cX6_read 189 = .ok (.iastore, 1) := by decide +kernel
theorem dX6_read_190 : decode cX6_read 190 = .ok (.aload_n 0, 1) := by decide +kernel
theorem dX6_read_191 : decode cX6_read 191 = .ok (.iconst (-1), 1) := by decide +kernel
theorem dX6_read_192 : decode cX6_read 192 = .ok (.putfield 113, 3) := by decide +kernel
theorem dX6_read_195 : decode cX6_read 195 = .ok (.iconst 0, 1) := by decide +kernel
theorem dX6_read_196 : decode cX6_read 196 = .ok (.ireturn, 1) := by decide +kernel
theorem dX6_place_0 : decode cX6_place 0 = .ok (.aload_n 0, 1) := by decide +kernel
theorem dX6_place_1 : decode cX6_place 1 = .ok (.getfield 37, 3) := by decide +kernel
theorem dX6_place_4 : decode cX6_place 4 = .ok (.ireturn, 1) := by decide +kernel
set_option maxRecDepth 20000 in
theorem ggX6_tellRule_X6_is : GoodIn wsX6_tellRule wsX6_is := goodIn_r _ [14, 3, 5, 6, 57, 58, 59, 60, 61, 62, 63, 64, 65, 66, 67, 68, 69, 70, 71, 72, 73, 74, 75, 76, 77, 78, 79, 80, 81, 82, 83, 84, 85, 86, 87, 88, 89, 90, 91, 92, 93, 94, 95, 96, 97, 98, 99, 100, 101, 102, 103, 104, 105, 106, 107, 108, 109, 110, 111, 112, 113, 114, 115, 116] (by decide +kernel) (by decide +kernel)
set_option maxRecDepth 20000 in
theorem gX6_tellRule_X6_is : GoodIn wsX6_tellRule (wsV RX6 206 RX6 yX6_is wsX6_is) := goodIn_app (goodIn_of _ (by decide +kernel)) ggX6_tellRule_X6_is
set_option maxRecDepth 20000 in
theorem ggX6_tellRule_X6_fail : GoodIn wsX6_tellRule wsX6_fail := goodIn_r _ [18, 3, 19, 6, 20, 57, 58, 59, 60, 61, 62, 63, 64, 65, 66, 67, 68, 69, 70, 71, 72, 73, 74, 75, 76, 77, 78, 79, 80, 81, 82, 83, 84, 85, 86, 87, 88, 89, 90, 91, 92, 93, 94, 95, 96, 97, 98, 99, 100, 101, 102, 103, 104, 105, 106, 107, 108, 109, 110, 111, 112, 113, 114, 115, 116] (by decide +kernel) (by decide +kernel)
set_option maxRecDepth 20000 in
theorem gX6_tellRule_X6_fail : GoodIn wsX6_tellRule (wsV RX6 203 RX6 yX6_fail wsX6_fail) := goodIn_app (goodIn_of _ (by decide +kernel)) ggX6_tellRule_X6_fail
set_option maxRecDepth 20000 in
theorem ggX6_tellRule_X6_next : GoodIn wsX6_tellRule wsX6_next := goodIn_r _ [24, 6, 15, 16, 17, 13, 18, 3, 19, 20, 57, 58, 59, 60, 61, 62, 63, 64, 65, 66, 67, 68, 69, 70, 71, 72, 73, 74, 75, 76, 77, 78, 79, 80, 81, 82, 83, 84, 85, 86, 87, 88, 89, 90, 91, 92, 93, 94, 95, 96, 97, 98, 99, 100, 101, 102, 103, 104, 105, 106, 107, 108, 109, 110, 111, 112, 113, 114, 115, 116] (by decide +kernel) (by decide +kernel)
set_option maxRecDepth 20000 in
theorem gX6_tellRule_X6_next : GoodIn wsX6_tellRule (wsV RX6 209 RX6 yX6_next wsX6_next) := goodIn_app (goodIn_of _ (by decide +kernel)) ggX6_tellRule_X6_next
set_option maxRecDepth 20000 in
theorem ggX6_tellRule_X6_must : GoodIn wsX6_tellRule wsX6_must := goodIn_r _ [28, 10, 11, 12, 13, 14, 3, 5, 6, 21, 22, 23, 24, 15, 16, 17, 18, 19, 20, 57, 58, 59, 60, 61, 62, 63, 64, 65, 66, 67, 68, 69, 70, 71, 72, 73, 74, 75, 76, 77, 78, 79, 80, 81, 82, 83, 84, 85, 86, 87, 88, 89, 90, 91, 92, 93, 94, 95, 96, 97, 98, 99, 100, 101, 102, 103, 104, 105, 106, 107, 108, 109, 110, 111, 112, 113, 114, 115, 116] (by decide +kernel) (by decide +kernel)
set_option maxRecDepth 20000 in
theorem gX6_tellRule_X6_must : GoodIn wsX6_tellRule (wsV RX6 230 RX6 yX6_must wsX6_must) := goodIn_app (goodIn_of _ (by decide +kernel)) ggX6_tellRule_X6_must
set_option maxRecDepth 20000 in
theorem ggX6_tellRule_X6_relation : GoodIn wsX6_tellRule wsX6_relation := goodIn_r _ [32, 33, 3, 5, 6, 2, 8, 34, 35, 36, 37, 38, 39, 40, 41, 13, 42, 43, 44, 45, 46, 10, 11, 12, 14, 15, 16, 17, 18, 19, 20, 21, 22, 23, 24, 47, 48, 49, 50, 51, 52, 53, 54, 55, 56, 57, 58, 59, 60, 61, 62, 63, 64, 65, 66, 67, 68, 69, 70, 71, 72, 73, 74, 75, 76, 77, 78, 79, 80, 81, 82, 83, 84, 85, 86, 87, 88, 89, 90, 91, 92, 93, 94, 95, 96, 97, 98, 99, 100, 101, 102, 103, 104, 105, 106, 107, 108, 109, 110, 111, 112, 113, 114, 115, 116] (by decide +kernel) (by decide +kernel)
set_option maxRecDepth 20000 in
theorem gX6_tellRule_X6_relation : GoodIn wsX6_tellRule (wsV RX6 233 RX6 yX6_relation wsX6_relation) := goodIn_app (goodIn_of _ (by decide +kernel)) ggX6_tellRule_X6_relation
theorem dX6_tellRule_0 : decode cX6_tellRule 0 = .ok (.aload_n 0, 1) := by decide +kernel
theorem dX6_tellRule_1 : decode cX6_tellRule 1 = .ok (.bipush 20, 2) := by decide +kernel
theorem dX6_tellRule_3 : decode cX6_tellRule 3 = .ok (.invokevirtual 206, 3) := by decide +kernel
theorem dX6_tellRule_6 : decode cX6_tellRule 6 = .ok (.ifCond .ne 29, 3) := by decide +kernel
theorem dX6_tellRule_9 : decode cX6_tellRule 9 = .ok (.aload_n 0, 1) := by decide +kernel
theorem dX6_tellRule_10 : decode cX6_tellRule 10 = .ok (.bipush 21, 2) := by decide +kernel
theorem dX6_tellRule_12 : decode cX6_tellRule 12 = .ok (.invokevirtual 206, 3) := by decide +kernel
theorem dX6_tellRule_15 : decode cX6_tellRule 15 = .ok (.ifCond .ne 20, 3) := by decide +kernel
theorem dX6_tellRule_18 : decode cX6_tellRule 18 = .ok (.aload_n 0, 1) := by decide +kernel
theorem dX6_tellRule_19 : decode cX6_tellRule 19 = .ok (.bipush 22, 2) := by decide +kernel
theorem dX6_tellRule_21 : decode cX6_tellRule 21 = .ok (.invokevirtual 206, 3) := by decide +kernel
theorem dX6_tellRule_24 : decode cX6_tellRule 24 = .ok (.ifCond .ne 11, 3) := by decide +kernel
theorem dX6_tellRule_27 : decode cX6_tellRule 27 = .ok (.aload_n 0, 1) := by decide +kernel
theorem dX6_tellRule_28 : decode cX6_tellRule 28 = .ok (.iconst 1, 1) := by decide +kernel
theorem dX6_tellRule_29 : decode cX6_tellRule 29 = .ok (.invokevirtual 203, 3) := by decide +kernel
theorem dX6_tellRule_32 : decode cX6_tellRule 32 = .ok (.goto 22, 3) := by decide +kernel
theorem dX6_tellRule_35 : decode cX6_tellRule 35 = .ok (.aload_n 0, 1) := by decide +kernel
theorem dX6_tellRule_36 : decode cX6_tellRule 36 = .ok (.getfield 43, 3) := by decide +kernel
theorem dX6_tellRule_39 : decode cX6_tellRule 39 = .ok (.aload_n 0, 1) := by decide +kernel
theorem dX6_tellRule_40 : decode cX6_tellRule 40 = .ok (.getfield 221, 3) := by decide +kernel
theorem dX6_tellRule_43 : decode cX6_tellRule 43 = .ok (.iaload, 1) := by decide +kernel
theorem dX6_tellRule_44 : decode cX6_tellRule 44 = .ok (.bipush 12, 2) := by decide +kernel
theorem dX6_tellRule_46 : decode cX6_tellRule 46 = .ok (.if_icmp .ne 8, 3) := by decide +kernel
theorem dX6_tellRule_49 : decode cX6_tellRule 49 = .ok (.aload_n 0, 1) := by decide +kernel
theorem dX6_tellRule_50 : decode cX6_tellRule 50 = .ok (.iconst 2, 1) := by decide +kernel
theorem dX6_tellRule_51 : decode cX6_tellRule 51 = .ok (.invokevirtual 203, 3) := by decide +kernel
theorem dX6_tellRule_54 : decode cX6_tellRule 54 = .ok (.aload_n 0, 1) := by decide +kernel
theorem dX6_tellRule_55 : decode cX6_tellRule 55 = .ok (.getfield 188, 3) := by decide +kernel
theorem dX6_tellRule_58 : decode cX6_tellRule 58 = .ok (.ifCond .le 4, 3) := by decide +kernel
theorem dX6_tellRule_61 : decode cX6_tellRule 61 = .ok (.return_, 1) := by decide +kernel
theorem dX6_tellRule_62 : decode cX6_tellRule 62 = .ok (.bipush 12, 2) := by decide +kernel
theorem dX6_tellRule_64 : decode cX6_tellRule 64 = .ok (.aload_n 0, 1) := by decide +kernel
theorem dX6_tellRule_65 : decode cX6_tellRule 65 = .ok (.getfield 221, 3) := by decide +kernel
theorem dX6_tellRule_68 : decode cX6_tellRule 68 = .ok (.imul, 1) := by decide +kernel
theorem dX6_tellRule_69 : decode cX6_tellRule 69 = .ok (.aload_n 0, 1) := by decide +kernel
theorem dX6_tellRule_70 : decode cX6_tellRule 70 = .ok (.getfield 43, 3) := by decide +kernel
theorem dX6_tellRule_73 : decode cX6_tellRule 73 = .ok (.aload_n 0, 1) := by decide +kernel
theorem dX6_tellRule_74 : decode cX6_tellRule 74 = .ok (.getfield 221, 3) := by decide +kernel
theorem dX6_tellRule_77 : decode cX6_tellRule 77 = .ok (.iaload, 1) := by decide +kernel
theorem dX6_tellRule_78 : decode cX6_tellRule 78 = .ok (.iadd, 1) := by decide +kernel
theorem dX6_tellRule_79 : decode cX6_tellRule 79 = .ok (.istore_n 1, 1) := by decide +kernel
theorem dX6_tellRule_80 : decode cX6_tellRule 80 = .ok (.aload_n 0, 1) := by decide +kernel
theorem dX6_tellRule_81 : decode cX6_tellRule 81 = .ok (.getfield 46, 3) := by decide +kernel
theorem dX6_tellRule_84 : decode cX6_tellRule 84 = .ok (.iload_n 1, 1) := by decide +kernel
theorem dX6_tellRule_85 : decode cX6_tellRule 85 = .ok (.aload_n 0, 1) := by decide +kernel
theorem dX6_tellRule_86 : decode cX6_tellRule 86 = .ok (.getfield 20, 3) := by decide +kernel
theorem dX6_tellRule_89 : decode cX6_tellRule 89 = .ok (.aload_n 0, 1) := by decide +kernel
theorem dX6_tellRule_90 : decode cX6_tellRule 90 = .ok (.getfield 191, 3) := by decide +kernel
theorem dX6_tellRule_93 : decode cX6_tellRule 93 = .ok (.iaload, 1) := by decide +kernel
theorem dX6_tellRule_94 : decode cX6_tellRule 94 = .ok (.bipush 20, 2) := by decide +kernel
theorem dX6_tellRule_96 : decode cX6_tellRule 96 = .ok (.isub, 1) := by decide +kernel
theorem dX6_tellRule_97 : decode cX6_tellRule 97 = .ok (.iastore, 1) := by decide +kernel
theorem dX6_tellRule_98 : decode cX6_tellRule 98 = .ok (.aload_n 0, 1) := by decide +kernel
theorem dX6_tellRule_99 : decode cX6_tellRule 99 = .ok (.invokevirtual 209, 3) := by decide +kernel
theorem dX6_tellRule_102 : decode cX6_tellRule 102 = .ok (.aload_n 0, 1) := by decide +kernel
theorem dX6_tellRule_103 : decode cX6_tellRule 103 = .ok (.bipush 23, 2) := by decide +kernel
theorem dX6_tellRule_105 : decode cX6_tellRule 105 = .ok (.invokevirtual 230, 3) := by decide +kernel
theorem dX6_tellRule_108 : decode cX6_tellRule 108 = .ok (.aload_n 0, 1) := by decide +kernel
theorem dX6_tellRule_109 : decode cX6_tellRule 109 = .ok (.getfield 49, 3) := by decide +kernel
theorem dX6_tellRule_112 : decode cX6_tellRule 112 = .ok (.iload_n 1, 1) := by decide +kernel
theorem dX6_tellRule_113 : decode cX6_tellRule 113 = .ok (.aload_n 0, 1) := by decide +kernel
theorem dX6_tellRule_114 : decode cX6_tellRule 114 = .ok (.getfield 55, 3) := by decide +kernel
theorem dX6_tellRule_117 : decode cX6_tellRule 117 = .ok (.aload_n 0, 1) := by decide +kernel
theorem dX6_tellRule_118 : decode cX6_tellRule 118 = .ok (.getfield 221, 3) := by decide +kernel
theorem dX6_tellRule_121 : decode cX6_tellRule 121 = .ok (.iaload, 1) := by decide +kernel
theorem dX6_tellRule_122 : decode cX6_tellRule 122 = .ok (.iastore, 1) := by decide +kernel
theorem dX6_tellRule_123 : decode cX6_tellRule 123 = .ok (.iconst 1, 1) := by decide +kernel
theorem dX6_tellRule_124 : decode cX6_tellRule 124 = .ok (.istore_n 2, 1) := by decide +kernel
theorem dX6_tellRule_125 : decode cX6_tellRule 125 = .ok (.iconst 1, 1) := by decide +kernel
theorem dX6_tellRule_126 : decode cX6_tellRule 126 = .ok (.istore_n 3, 1) := by decide +kernel
theorem dX6_tellRule_127 : decode cX6_tellRule 127 = .ok (.iload_n 3, 1) := by decide +kernel
theorem dX6_tellRule_128 : decode cX6_tellRule 128 = .ok (.ifCond .eq 52, 3) := by decide +kernel
theorem dX6_tellRule_131 : decode cX6_tellRule 131 = .ok (.aload_n 0, 1) := by decide +kernel
theorem dX6_tellRule_132 : decode cX6_tellRule 132 = .ok (.getfield 188, 3) := by decide +kernel
theorem dX6_tellRule_135 : decode cX6_tellRule 135 = .ok (.ifCond .ne 45, 3) := by decide +kernel
theorem dX6_tellRule_138 : decode cX6_tellRule 138 = .ok (.aload_n 0, 1) := by decide +kernel
theorem dX6_tellRule_139 : decode cX6_tellRule 139 = .ok (.iload_n 2, 1) := by decide +kernel
theorem dX6_tellRule_140 : decode cX6_tellRule 140 = .ok (.invokevirtual 233, 3) := by decide +kernel
theorem dX6_tellRule_143 : decode cX6_tellRule 143 = .ok (.aload_n 0, 1) := by decide +kernel
theorem dX6_tellRule_144 : decode cX6_tellRule 144 = .ok (.bipush 24, 2) := by decide +kernel
theorem dX6_tellRule_146 : decode cX6_tellRule 146 = .ok (.invokevirtual 206, 3) := by decide +kernel
theorem dX6_tellRule_149 : decode cX6_tellRule 149 = .ok (.istore_n 2, 1) := by decide +kernel
theorem dX6_tellRule_150 : decode cX6_tellRule 150 = .ok (.iload_n 2, 1) := by decide +kernel
theorem dX6_tellRule_151 : decode cX6_tellRule 151 = .ok (.ifCond .ne 12, 3) := by decide +kernel
theorem dX6_tellRule_154 : decode cX6_tellRule 154 = .ok (.aload_n 0, 1) := by decide +kernel
theorem dX6_tellRule_155 : decode cX6_tellRule 155 = .ok (.bipush 25, 2) := by decide +kernel
theorem dX6_tellRule_157 : decode cX6_tellRule 157 = .ok (.invokevirtual 206, 3) := by decide +kernel
theorem dX6_tellRule_160 : decode cX6_tellRule 160 = .ok (.ifCond .eq 7, 3) := by decide +kernel
theorem dX6_tellRule_163 : decode cX6_tellRule 163 = .ok (.iconst 1, 1) := by decide +kernel
theorem dX6_tellRule_164 : decode cX6_tellRule 164 = .ok (.goto 4, 3) := by decide +kernel
theorem dX6_tellRule_167 : decode cX6_tellRule 167 = .ok (.iconst 0, 1) := by decide +kernel
theorem dX6_tellRule_168 : decode cX6_tellRule 168 = .ok (.istore_n 3, 1) := by decide +kernel
theorem dX6_tellRule_169 : decode cX6_tellRule 169 = .ok (.iload_n 3, 1) := by decide +kernel
theorem dX6_tellRule_170 : decode cX6_tellRule 170 = .ok (.ifCond .eq (-43), 3) := by decide +kernel
theorem dX6_tellRule_173 : decode cX6_tellRule 173 = .ok (.aload_n 0, 1) := by decide +kernel
theorem dX6_tellRule_174 : decode cX6_tellRule 174 = .ok (.invokevirtual 209, 3) := by decide +kernel
theorem dX6_tellRule_177 : decode cX6_tellRule 177 = .ok (.goto (-50), 3) := by decide +kernel
theorem dX6_tellRule_180 : decode cX6_tellRule 180 = .ok (.aload_n 0, 1) := by decide +kernel
theorem dX6_tellRule_181 : decode cX6_tellRule 181 = .ok (.iconst 4, 1) := by decide +kernel
theorem dX6_tellRule_182 : decode cX6_tellRule 182 = .ok (.invokevirtual 230, 3) := by decide +kernel
theorem dX6_tellRule_185 : decode cX6_tellRule 185 = .ok (.aload_n 0, 1) := by decide +kernel
theorem dX6_tellRule_186 : decode cX6_tellRule 186 = .ok (.getfield 188, 3) := by decide +kernel
theorem dX6_tellRule_189 : decode cX6_tellRule 189 = .ok (.ifCond .le 4, 3) := by decide +kernel
theorem dX6_tellRule_192 : decode cX6_tellRule 192 = .ok (.return_, 1) := by decide +kernel
theorem dX6_tellRule_193 : decode cX6_tellRule 193 = .ok (.aload_n 0, 1) := by decide +kernel
theorem dX6_tellRule_194 : decode cX6_tellRule 194 = .ok (.getfield 52, 3) := by decide +kernel
theorem dX6_tellRule_197 : decode cX6_tellRule 197 = .ok (.iload_n 1, 1) := by decide +kernel
theorem dX6_tellRule_198 : decode cX6_tellRule 198 = .ok (.aload_n 0, 1) := by decide +kernel
theorem dX6_tellRule_199 : decode cX6_tellRule 199 = .ok (.getfield 55, 3) := by decide +kernel
theorem dX6_tellRule_202 : decode cX6_tellRule 202 = .ok (.aload_n 0, 1) := by decide +kernel
theorem dX6_tellRule_203 : decode cX6_tellRule 203 = .ok (.getfield 221, 3) := by decide +kernel
theorem dX6_tellRule_206 : decode cX6_tellRule 206 = .ok (.iaload, 1) := by decide +kernel
theorem dX6_tellRule_207 : decode cX6_tellRule 207 = .ok (.iastore, 1) := by decide +kernel
theorem dX6_tellRule_208 : decode cX6_tellRule 208 = .ok (.aload_n 0, 1) := by decide +kernel
theorem dX6_tellRule_209 : decode cX6_tellRule 209 = .ok (.getfield 43, 3) := by decide +kernel
theorem dX6_tellRule_212 : decode cX6_tellRule 212 = .ok (.aload_n 0, 1) := by decide +kernel
theorem dX6_tellRule_213 : decode cX6_tellRule 213 = .ok (.getfield 221, 3) := by decide +kernel
theorem dX6_tellRule_216 : decode cX6_tellRule 216 = .ok (.dup2, 1) := by decide +kernel
theorem dX6_tellRule_217 : decode cX6_tellRule 217 = .ok (.iaload, 1) := by decide +kernel
theorem dX6_tellRule_218 : decode cX6_tellRule 218 = .ok (.iconst 1, 1) := by decide +kernel
theorem dX6_tellRule_219 : decode cX6_tellRule 219 = .ok (.iadd, 1) := by decide +kernel
theorem dX6_tellRule_220 : decode cX6_tellRule 220 = .ok (.iastore, 1) := by decide +kernel
theorem dX6_tellRule_221 : decode cX6_tellRule 221 = .ok (.return_, 1) := by decide +kernel
set_option maxRecDepth 20000 in
theorem ggX6_relation_X6_expression : GoodIn wsX6_relation wsX6_expression := goodIn_r _ [16, 17, 18, 2, 19, 3, 4, 20, 21, 22, 23, 15, 24, 25, 26, 27, 28, 29, 30, 31, 32, 33, 34, 35, 36, 37, 38, 39, 1, 40, 41, 42, 43, 44, 45, 46, 47, 48, 49, 50, 51, 52, 53, 54, 55, 56, 57, 58, 59, 60, 61, 62, 63, 64, 65, 66, 67, 68, 69, 70, 71, 72, 73, 74, 75, 76, 77, 78, 79, 80, 81, 82, 83, 84, 85, 86, 87, 88, 89, 90, 91, 92, 93, 94, 95, 96, 97, 98, 99, 100, 101, 102, 103, 104] (by decide +kernel) (by decide +kernel)
set_option maxRecDepth 20000 in
theorem gX6_relation_X6_expression : GoodIn wsX6_relation (wsV RX6 237 RX6 yX6_expression wsX6_expression) := goodIn_app (goodIn_of _ (by decide +kernel)) ggX6_relation_X6_expression
set_option maxRecDepth 20000 in
theorem ggX6_relation_X6_fail : GoodIn wsX6_relation wsX6_fail := goodIn_r _ [28, 2, 29, 4, 30, 45, 46, 47, 48, 49, 50, 51, 52, 53, 54, 55, 56, 57, 58, 59, 60, 61, 62, 63, 64, 65, 66, 67, 68, 69, 70, 71, 72, 73, 74, 75, 76, 77, 78, 79, 80, 81, 82, 83, 84, 85, 86, 87, 88, 89, 90, 91, 92, 93, 94, 95, 96, 97, 98, 99, 100, 101, 102, 103, 104] (by decide +kernel) (by decide +kernel)
set_option maxRecDepth 20000 in
theorem gX6_relation_X6_fail : GoodIn wsX6_relation (wsV RX6 203 RX6 yX6_fail wsX6_fail) := goodIn_app (goodIn_of _ (by decide +kernel)) ggX6_relation_X6_fail
set_option maxRecDepth 20000 in
theorem ggX6_relation_X6_next : GoodIn wsX6_relation wsX6_next := goodIn_r _ [34, 4, 25, 26, 27, 15, 28, 2, 29, 30, 45, 46, 47, 48, 49, 50, 51, 52, 53, 54, 55, 56, 57, 58, 59, 60, 61, 62, 63, 64, 65, 66, 67, 68, 69, 70, 71, 72, 73, 74, 75, 76, 77, 78, 79, 80, 81, 82, 83, 84, 85, 86, 87, 88, 89, 90, 91, 92, 93, 94, 95, 96, 97, 98, 99, 100, 101, 102, 103, 104] (by decide +kernel) (by decide +kernel)
set_option maxRecDepth 20000 in
theorem gX6_relation_X6_next : GoodIn wsX6_relation (wsV RX6 209 RX6 yX6_next wsX6_next) := goodIn_app (goodIn_of _ (by decide +kernel)) ggX6_relation_X6_next
theorem dX6_relation_0 : decode cX6_relation 0 = .ok (.aload_n 0, 1) := by decide +kernel
theorem dX6_relation_1 : decode cX6_relation 1 = .ok (.getfield 224, 3) := by decide +kernel
theorem dX6_relation_4 : decode cX6_relation 4 = .ok (.istore_n 2, 1) := by decide +kernel
theorem dX6_relation_5 : decode cX6_relation 5 = .ok (.aload_n 0, 1) := by decide +kernel
theorem dX6_relation_6 : decode cX6_relation 6 = .ok (.invokevirtual 237, 3) := by decide +kernel
theorem dX6_relation_9 : decode cX6_relation 9 = .ok (.aload_n 0, 1) := by decide +kernel
theorem dX6_relation_10 : decode cX6_relation 10 = .ok (.getfield 188, 3) := by decide +kernel
theorem dX6_relation_13 : decode cX6_relation 13 = .ok (.ifCond .le 7, 3) := by decide +kernel
theorem dX6_relation_16 : decode cX6_relation 16 = .ok (.iconst 0, 1) := by decide +kernel
theorem dX6_relation_17 : decode cX6_relation 17 = .ok (.goto 15, 3) := by decide +kernel
theorem dX6_relation_20 : decode cX6_relation 20 = .ok (.aload_n 0, 1) := by decide +kernel
theorem dX6_relation_21 : decode cX6_relation 21 = .ok (.getfield 20, 3) := by decide +kernel
theorem dX6_relation_24 : decode cX6_relation 24 = .ok (.aload_n 0, 1) := by decide +kernel
theorem dX6_relation_25 : decode cX6_relation 25 = .ok (.getfield 191, 3) := by decide +kernel
theorem dX6_relation_28 : decode cX6_relation 28 = .ok (.iaload, 1) := by decide +kernel
theorem dX6_relation_29 : decode cX6_relation 29 = .ok (.bipush 11, 2) := by decide +kernel
