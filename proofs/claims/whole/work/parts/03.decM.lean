theorem dX12_init_0 : decode cX12_init 0 = .ok (.aload_n 0, 1) := by decide +kernel
theorem dX12_init_1 : decode cX12_init 1 = .ok (.invokespecial 1, 3) := by decide +kernel
theorem dX12_init_4 : decode cX12_init 4 = .ok (.aload_n 0, 1) := by decide +kernel
theorem dX12_init_5 : decode cX12_init 5 = .ok (.sipush 4097, 3) := by decide +kernel
theorem dX12_init_8 : decode cX12_init 8 = .ok (.newarray .int, 2) := by decide +kernel
theorem dX12_init_10 : decode cX12_init 10 = .ok (.putfield 7, 3) := by decide +kernel
theorem dX12_init_13 : decode cX12_init 13 = .ok (.aload_n 0, 1) := by decide +kernel
theorem dX12_init_14 : decode cX12_init 14 = .ok (.sipush 4097, 3) := by decide +kernel
theorem dX12_init_17 : decode cX12_init 17 = .ok (.newarray .int, 2) := by decide +kernel
theorem dX12_init_19 : decode cX12_init 19 = .ok (.putfield 13, 3) := by decide +kernel
theorem dX12_init_22 : decode cX12_init 22 = .ok (.aload_n 0, 1) := by decide +kernel
theorem dX12_init_23 : decode cX12_init 23 = .ok (.sipush 4097, 3) := by decide +kernel
theorem dX12_init_26 : decode cX12_init 26 = .ok (.newarray .int, 2) := by decide +kernel
theorem dX12_init_28 : decode cX12_init 28 = .ok (.putfield 16, 3) := by decide +kernel
theorem dX12_init_31 : decode cX12_init 31 = .ok (.aload_n 0, 1) := by decide +kernel
theorem dX12_init_32 : decode cX12_init 32 = .ok (.sipush 4097, 3) := by decide +kernel
theorem dX12_init_35 : decode cX12_init 35 = .ok (.newarray .int, 2) := by decide +kernel
theorem dX12_init_37 : decode cX12_init 37 = .ok (.putfield 19, 3) := by decide +kernel
theorem dX12_init_40 : decode cX12_init 40 = .ok (.aload_n 0, 1) := by decide +kernel
theorem dX12_init_41 : decode cX12_init 41 = .ok (.sipush 4097, 3) := by decide +kernel
theorem dX12_init_44 : decode cX12_init 44 = .ok (.newarray .int, 2) := by decide +kernel
theorem dX12_init_46 : decode cX12_init 46 = .ok (.putfield 22, 3) := by decide +kernel
theorem dX12_init_49 : decode cX12_init 49 = .ok (.aload_n 0, 1) := by decide +kernel
theorem dX12_init_50 : decode cX12_init 50 = .ok (.iconst 1, 1) := by decide +kernel
theorem dX12_init_51 : decode cX12_init 51 = .ok (.putfield 25, 3) := by decide +kernel
theorem dX12_init_54 : decode cX12_init 54 = .ok (.aload_n 0, 1) := by decide +kernel
theorem dX12_init_55 : decode cX12_init 55 = .ok (.iconst 1, 1) := by decide +kernel
theorem dX12_init_56 : decode cX12_init 56 = .ok (.putfield 29, 3) := by decide +kernel
theorem dX12_init_59 : decode cX12_init 59 = .ok (.aload_n 0, 1) := by decide +kernel
theorem dX12_init_60 : decode cX12_init 60 = .ok (.sipush 200, 3) := by decide +kernel
theorem dX12_init_63 : decode cX12_init 63 = .ok (.newarray .int, 2) := by decide +kernel
theorem dX12_init_65 : decode cX12_init 65 = .ok (.putfield 33, 3) := by decide +kernel
theorem dX12_init_68 : decode cX12_init 68 = .ok (.aload_n 0, 1) := by decide +kernel
theorem dX12_init_69 : decode cX12_init 69 = .ok (.sipush 200, 3) := by decide +kernel
theorem dX12_init_72 : decode cX12_init 72 = .ok (.newarray .int, 2) := by decide +kernel
theorem dX12_init_74 : decode cX12_init 74 = .ok (.putfield 36, 3) := by decide +kernel
theorem dX12_init_77 : decode cX12_init 77 = .ok (.aload_n 0, 1) := by decide +kernel
theorem dX12_init_78 : decode cX12_init 78 = .ok (.sipush 200, 3) := by decide +kernel
theorem dX12_init_81 : decode cX12_init 81 = .ok (.newarray .int, 2) := by decide +kernel
theorem dX12_init_83 : decode cX12_init 83 = .ok (.putfield 39, 3) := by decide +kernel
theorem dX12_init_86 : decode cX12_init 86 = .ok (.aload_n 0, 1) := by decide +kernel
theorem dX12_init_87 : decode cX12_init 87 = .ok (.sipush 200, 3) := by decide +kernel
theorem dX12_init_90 : decode cX12_init 90 = .ok (.newarray .int, 2) := by decide +kernel
theorem dX12_init_92 : decode cX12_init 92 = .ok (.putfield 42, 3) := by decide +kernel
theorem dX12_init_95 : decode cX12_init 95 = .ok (.aload_n 0, 1) := by decide +kernel
theorem dX12_init_96 : decode cX12_init 96 = .ok (.sipush 200, 3) := by decide +kernel
theorem dX12_init_99 : decode cX12_init 99 = .ok (.newarray .int, 2) := by decide +kernel
theorem dX12_init_101 : decode cX12_init 101 = .ok (.putfield 45, 3) := by decide +kernel
theorem dX12_init_104 : decode cX12_init 104 = .ok (.aload_n 0, 1) := by decide +kernel
theorem dX12_init_105 : decode cX12_init 105 = .ok (.sipush 200, 3) := by decide +kernel
theorem dX12_init_108 : decode cX12_init 108 = .ok (.newarray .int, 2) := by decide +kernel
theorem dX12_init_110 : decode cX12_init 110 = .ok (.putfield 48, 3) := by decide +kernel
theorem dX12_init_113 : decode cX12_init 113 = .ok (.aload_n 0, 1) := by decide +kernel
theorem dX12_init_114 : decode cX12_init 114 = .ok (.sipush 200, 3) := by decide +kernel
theorem dX12_init_117 : decode cX12_init 117 = .ok (.newarray .int, 2) := by decide +kernel
theorem dX12_init_119 : decode cX12_init 119 = .ok (.putfield 51, 3) := by decide +kernel
theorem dX12_init_122 : decode cX12_init 122 = .ok (.aload_n 0, 1) := by decide +kernel
theorem dX12_init_123 : decode cX12_init 123 = .ok (.sipush 200, 3) := by decide +kernel
theorem dX12_init_126 : decode cX12_init 126 = .ok (.newarray .int, 2) := by decide +kernel
theorem dX12_init_128 : decode cX12_init 128 = .ok (.putfield 54, 3) := by decide +kernel
theorem dX12_init_131 : decode cX12_init 131 = .ok (.aload_n 0, 1) := by decide +kernel
theorem dX12_init_132 : decode cX12_init 132 = .ok (.sipush 200, 3) := by decide +kernel
theorem dX12_init_135 : decode cX12_init 135 = .ok (.newarray .int, 2) := by decide +kernel
theorem dX12_init_137 : decode cX12_init 137 = .ok (.putfield 57, 3) := by decide +kernel
theorem dX12_init_140 : decode cX12_init 140 = .ok (.aload_n 0, 1) := by decide +kernel
theorem dX12_init_141 : decode cX12_init 141 = .ok (.sipush 200, 3) := by decide +kernel
theorem dX12_init_144 : decode cX12_init 144 = .ok (.newarray .int, 2) := by decide +kernel
theorem dX12_init_146 : decode cX12_init 146 = .ok (.putfield 60, 3) := by decide +kernel
theorem dX12_init_149 : decode cX12_init 149 = .ok (.aload_n 0, 1) := by decide +kernel
theorem dX12_init_150 : decode cX12_init 150 = .ok (.sipush 200, 3) := by decide +kernel
theorem dX12_init_153 : decode cX12_init 153 = .ok (.newarray .int, 2) := by decide +kernel
theorem dX12_init_155 : decode cX12_init 155 = .ok (.putfield 63, 3) := by decide +kernel
theorem dX12_init_158 : decode cX12_init 158 = .ok (.aload_n 0, 1) := by decide +kernel
theorem dX12_init_159 : decode cX12_init 159 = .ok (.sipush 200, 3) := by decide +kernel
theorem dX12_init_162 : decode cX12_init 162 = .ok (.newarray .int, 2) := by decide +kernel
theorem dX12_init_164 : decode cX12_init 164 = .ok (.putfield 66, 3) := by decide +kernel
theorem dX12_init_167 : decode cX12_init 167 = .ok (.aload_n 0, 1) := by decide +kernel
theorem dX12_init_168 : decode cX12_init 168 = .ok (.sipush 200, 3) := by decide +kernel
theorem dX12_init_171 : decode cX12_init 171 = .ok (.newarray .int, 2) := by decide +kernel
theorem dX12_init_173 : decode cX12_init 173 = .ok (.putfield 69, 3) := by decide +kernel
theorem dX12_init_176 : decode cX12_init 176 = .ok (.aload_n 0, 1) := by decide +kernel
theorem dX12_init_177 : decode cX12_init 177 = .ok (.sipush 200, 3) := by decide +kernel
theorem dX12_init_180 : decode cX12_init 180 = .ok (.newarray .int, 2) := by decide +kernel
theorem dX12_init_182 : decode cX12_init 182 = .ok (.putfield 72, 3) := by decide +kernel
theorem dX12_init_185 : decode cX12_init 185 = .ok (.aload_n 0, 1) := by decide +kernel
theorem dX12_init_186 : decode cX12_init 186 = .ok (.sipush 200, 3) := by decide +kernel
theorem dX12_init_189 : decode cX12_init 189 = .ok (.newarray .int, 2) := by decide +kernel
theorem dX12_init_191 : decode cX12_init 191 = .ok (.putfield 75, 3) := by decide +kernel
theorem dX12_init_194 : decode cX12_init 194 = .ok (.aload_n 0, 1) := by decide +kernel
theorem dX12_init_195 : decode cX12_init 195 = .ok (.sipush 200, 3) := by decide +kernel
theorem dX12_init_198 : decode cX12_init 198 = .ok (.newarray .boolean, 2) := by decide +kernel
theorem dX12_init_200 : decode cX12_init 200 = .ok (.putfield 78, 3) := by decide +kernel
theorem dX12_init_203 : decode cX12_init 203 = .ok (.aload_n 0, 1) := by decide +kernel
theorem dX12_init_204 : decode cX12_init 204 = .ok (.sipush 20000, 3) := by decide +kernel
theorem dX12_init_207 : decode cX12_init 207 = .ok (.newarray .int, 2) := by decide +kernel
theorem dX12_init_209 : decode cX12_init 209 = .ok (.putfield 82, 3) := by decide +kernel
theorem dX12_init_212 : decode cX12_init 212 = .ok (.aload_n 0, 1) := by decide +kernel
theorem dX12_init_213 : decode cX12_init 213 = .ok (.bipush 7, 2) := by decide +kernel
theorem dX12_init_215 : decode cX12_init 215 = .ok (.newarray .boolean, 2) := by decide +kernel
theorem dX12_init_217 : decode cX12_init 217 = .ok (.putfield 85, 3) := by decide +kernel
theorem dX12_init_220 : decode cX12_init 220 = .ok (.aload_n 0, 1) := by decide +kernel
theorem dX12_init_221 : decode cX12_init 221 = .ok (.bipush 7, 2) := by decide +kernel
theorem dX12_init_223 : decode cX12_init 223 = .ok (.newarray .int, 2) := by decide +kernel
theorem dX12_init_225 : decode cX12_init 225 = .ok (.putfield 88, 3) := by decide +kernel
theorem dX12_init_228 : decode cX12_init 228 = .ok (.aload_n 0, 1) := by decide +kernel
theorem dX12_init_229 : decode cX12_init 229 = .ok (.bipush 7, 2) := by decide +kernel
theorem dX12_init_231 : decode cX12_init 231 = .ok (.newarray .int, 2) := by decide +kernel
theorem dX12_init_233 : decode cX12_init 233 = .ok (.putfield 91, 3) := by decide +kernel
theorem dX12_init_236 : decode cX12_init 236 = .ok (.aload_n 0, 1) := by decide +kernel
theorem dX12_init_237 : decode cX12_init 237 = .ok (.bipush 7, 2) := by decide +kernel
theorem dX12_init_239 : decode cX12_init 239 = .ok (.newarray .int, 2) := by decide +kernel
theorem dX12_init_241 : decode cX12_init 241 = .ok (.putfield 94, 3) := by decide +kernel
theorem dX12_init_244 : decode cX12_init 244 = .ok (.aload_n 0, 1) := by decide +kernel
theorem dX12_init_245 : decode cX12_init 245 = .ok (.bipush 7, 2) := by decide +kernel
theorem dX12_init_247 : decode cX12_init 247 = .ok (.newarray .int, 2) := by decide +kernel
theorem dX12_init_249 : decode cX12_init 249 = .ok (.putfield 97, 3) := by decide +kernel
theorem dX12_init_252 : decode cX12_init 252 = .ok (.aload_n 0, 1) := by decide +kernel
theorem dX12_init_253 : decode cX12_init 253 = .ok (.bipush 7, 2) := by decide +kernel
theorem dX12_init_255 : decode cX12_init 255 = .ok (.newarray .int, 2) := by decide +kernel
theorem dX12_init_257 : decode cX12_init 257 = .ok (.putfield 100, 3) := by decide +kernel
theorem dX12_init_260 : decode cX12_init 260 = .ok (.aload_n 0, 1) := by decide +kernel
theorem dX12_init_261 : decode cX12_init 261 = .ok (.bipush 7, 2) := by decide +kernel
theorem dX12_init_263 : decode cX12_init 263 = .ok (.newarray .int, 2) := by decide +kernel
theorem dX12_init_265 : decode cX12_init 265 = .ok (.putfield 103, 3) := by decide +kernel
theorem dX12_init_268 : decode cX12_init 268 = .ok (.aload_n 0, 1) := by decide +kernel
theorem dX12_init_269 : decode cX12_init 269 = .ok (.bipush 7, 2) := by decide +kernel
theorem dX12_init_271 : decode cX12_init 271 = .ok (.newarray .int, 2) := by decide +kernel
theorem dX12_init_273 : decode cX12_init 273 = .ok (.putfield 106, 3) := by decide +kernel
theorem dX12_init_276 : decode cX12_init 276 = .ok (.aload_n 0, 1) := by decide +kernel
theorem dX12_init_277 : decode cX12_init 277 = .ok (.bipush 7, 2) := by decide +kernel
theorem dX12_init_279 : decode cX12_init 279 = .ok (.newarray .int, 2) := by decide +kernel
theorem dX12_init_281 : decode cX12_init 281 = .ok (.putfield 109, 3) := by decide +kernel
theorem dX12_init_284 : decode cX12_init 284 = .ok (.aload_n 0, 1) := by decide +kernel
theorem dX12_init_285 : decode cX12_init 285 = .ok (.bipush 7, 2) := by decide +kernel
theorem dX12_init_287 : decode cX12_init 287 = .ok (.newarray .int, 2) := by decide +kernel
theorem dX12_init_289 : decode cX12_init 289 = .ok (.putfield 112, 3) := by decide +kernel
theorem dX12_init_292 : decode cX12_init 292 = .ok (.aload_n 0, 1) := by decide +kernel
theorem dX12_init_293 : decode cX12_init 293 = .ok (.sipush 700, 3) := by decide +kernel
theorem dX12_init_296 : decode cX12_init 296 = .ok (.newarray .int, 2) := by decide +kernel
theorem dX12_init_298 : decode cX12_init 298 = .ok (.putfield 115, 3) := by decide +kernel
theorem dX12_init_301 : decode cX12_init 301 = .ok (.aload_n 0, 1) := by decide +kernel
theorem dX12_init_302 : decode cX12_init 302 = .ok (.bipush 7, 2) := by decide +kernel
theorem dX12_init_304 : decode cX12_init 304 = .ok (.newarray .int, 2) := by decide +kernel
theorem dX12_init_306 : decode cX12_init 306 = .ok (.putfield 118, 3) := by decide +kernel
theorem dX12_init_309 : decode cX12_init 309 = .ok (.aload_n 0, 1) := by decide +kernel
theorem dX12_init_310 : decode cX12_init 310 = .ok (.bipush 84, 2) := by decide +kernel
theorem dX12_init_312 : decode cX12_init 312 = .ok (.newarray .int, 2) := by decide +kernel
theorem dX12_init_314 : decode cX12_init 314 = .ok (.putfield 121, 3) := by decide +kernel
theorem dX12_init_317 : decode cX12_init 317 = .ok (.aload_n 0, 1) := by decide +kernel
theorem dX12_init_318 : decode cX12_init 318 = .ok (.bipush 84, 2) := by decide +kernel
theorem dX12_init_320 : decode cX12_init 320 = .ok (.newarray .int, 2) := by decide +kernel
theorem dX12_init_322 : decode cX12_init 322 = .ok (.putfield 124, 3) := by decide +kernel
theorem dX12_init_325 : decode cX12_init 325 = .ok (.aload_n 0, 1) := by decide +kernel
theorem dX12_init_326 : decode cX12_init 326 = .ok (.bipush 7, 2) := by decide +kernel
theorem dX12_init_328 : decode cX12_init 328 = .ok (.newarray .int, 2) := by decide +kernel
theorem dX12_init_330 : decode cX12_init 330 = .ok (.putfield 127, 3) := by decide +kernel
theorem dX12_init_333 : decode cX12_init 333 = .ok (.aload_n 0, 1) := by decide +kernel
theorem dX12_init_334 : decode cX12_init 334 = .ok (.bipush 7, 2) := by decide +kernel
theorem dX12_init_336 : decode cX12_init 336 = .ok (.newarray .int, 2) := by decide +kernel
theorem dX12_init_338 : decode cX12_init 338 = .ok (.putfield 130, 3) := by decide +kernel
theorem dX12_init_341 : decode cX12_init 341 = .ok (.aload_n 0, 1) := by decide +kernel
theorem dX12_init_342 : decode cX12_init 342 = .ok (.bipush 7, 2) := by decide +kernel
theorem dX12_init_344 : decode cX12_init 344 = .ok (.newarray .int, 2) := by decide +kernel
theorem dX12_init_346 : decode cX12_init 346 = .ok (.putfield 133, 3) := by decide +kernel
theorem dX12_init_349 : decode cX12_init 349 = .ok (.aload_n 0, 1) := by decide +kernel
theorem dX12_init_350 : decode cX12_init 350 = .ok (.bipush 7, 2) := by decide +kernel
theorem dX12_init_352 : decode cX12_init 352 = .ok (.newarray .int, 2) := by decide +kernel
theorem dX12_init_354 : decode cX12_init 354 = .ok (.putfield 136, 3) := by decide +kernel
theorem dX12_init_357 : decode cX12_init 357 = .ok (.aload_n 0, 1) := by decide +kernel
theorem dX12_init_358 : decode cX12_init 358 = .ok (.bipush 49, 2) := by decide +kernel
theorem dX12_init_360 : decode cX12_init 360 = .ok (.newarray .int, 2) := by decide +kernel
theorem dX12_init_362 : decode cX12_init 362 = .ok (.putfield 139, 3) := by decide +kernel
theorem dX12_init_365 : decode cX12_init 365 = .ok (.aload_n 0, 1) := by decide +kernel
theorem dX12_init_366 : decode cX12_init 366 = .ok (.bipush 49, 2) := by decide +kernel
theorem dX12_init_368 : decode cX12_init 368 = .ok (.newarray .int, 2) := by decide +kernel
theorem dX12_init_370 : decode cX12_init 370 = .ok (.putfield 142, 3) := by decide +kernel
theorem dX12_init_373 : decode cX12_init 373 = .ok (.aload_n 0, 1) := by decide +kernel
theorem dX12_init_374 : decode cX12_init 374 = .ok (.bipush 49, 2) := by decide +kernel
theorem dX12_init_376 : decode cX12_init 376 = .ok (.newarray .int, 2) := by decide +kernel
theorem dX12_init_378 : decode cX12_init 378 = .ok (.putfield 145, 3) := by decide +kernel
theorem dX12_init_381 : decode cX12_init 381 = .ok (.aload_n 0, 1) := by decide +kernel
theorem dX12_init_382 : decode cX12_init 382 = .ok (.bipush 49, 2) := by decide +kernel
theorem dX12_init_384 : decode cX12_init 384 = .ok (.newarray .int, 2) := by decide +kernel
theorem dX12_init_386 : decode cX12_init 386 = .ok (.putfield 148, 3) := by decide +kernel
theorem dX12_init_389 : decode cX12_init 389 = .ok (.aload_n 0, 1) := by decide +kernel
theorem dX12_init_390 : decode cX12_init 390 = .ok (.sipush 4900, 3) := by decide +kernel
theorem dX12_init_393 : decode cX12_init 393 = .ok (.newarray .int, 2) := by decide +kernel
theorem dX12_init_395 : decode cX12_init 395 = .ok (.putfield 151, 3) := by decide +kernel
theorem dX12_init_398 : decode cX12_init 398 = .ok (.aload_n 0, 1) := by decide +kernel
theorem dX12_init_399 : decode cX12_init 399 = .ok (.bipush 100, 2) := by decide +kernel
theorem dX12_init_401 : decode cX12_init 401 = .ok (.newarray .int, 2) := by decide +kernel
theorem dX12_init_403 : decode cX12_init 403 = .ok (.putfield 154, 3) := by decide +kernel
theorem dX12_init_406 : decode cX12_init 406 = .ok (.aload_n 0, 1) := by decide +kernel
theorem dX12_init_407 : decode cX12_init 407 = .ok (.bipush 100, 2) := by decide +kernel
theorem dX12_init_409 : decode cX12_init 409 = .ok (.newarray .int, 2) := by decide +kernel
theorem dX12_init_411 : decode cX12_init 411 = .ok (.putfield 157, 3) := by decide +kernel
theorem dX12_init_414 : decode cX12_init 414 = .ok (.aload_n 0, 1) := by decide +kernel
theorem dX12_init_415 : decode cX12_init 415 = .ok (.iconst 4, 1) := by decide +kernel
theorem dX12_init_416 : decode cX12_init 416 = .ok (.newarray .int, 2) := by decide +kernel
theorem dX12_init_418 : decode cX12_init 418 = .ok (.putfield 160, 3) := by decide +kernel
theorem dX12_init_421 : decode cX12_init 421 = .ok (.aload_n 0, 1) := by decide +kernel
theorem dX12_init_422 : decode cX12_init 422 = .ok (.iconst 4, 1) := by decide +kernel
theorem dX12_init_423 : decode cX12_init 423 = .ok (.newarray .int, 2) := by decide +kernel
theorem dX12_init_425 : decode cX12_init 425 = .ok (.putfield 163, 3) := by decide +kernel
theorem dX12_init_428 : decode cX12_init 428 = .ok (.aload_n 0, 1) := by decide +kernel
theorem dX12_init_429 : decode cX12_init 429 = .ok (.iconst 4, 1) := by decide +kernel
theorem dX12_init_430 : decode cX12_init 430 = .ok (.newarray .int, 2) := by decide +kernel
theorem dX12_init_432 : decode cX12_init 432 = .ok (.putfield 166, 3) := by decide +kernel
theorem dX12_init_435 : decode cX12_init 435 = .ok (.aload_n 0, 1) := by decide +kernel
theorem dX12_init_436 : decode cX12_init 436 = .ok (.iconst 4, 1) := by decide +kernel
theorem dX12_init_437 : decode cX12_init 437 = .ok (.newarray .int, 2) := by decide +kernel
theorem dX12_init_439 : decode cX12_init 439 = .ok (.putfield 169, 3) := by decide +kernel
theorem dX12_init_442 : decode cX12_init 442 = .ok (.aload_n 0, 1) := by decide +kernel
theorem dX12_init_443 : decode cX12_init 443 = .ok (.iconst 4, 1) := by decide +kernel
theorem dX12_init_444 : decode cX12_init 444 = .ok (.newarray .int, 2) := by decide +kernel
theorem dX12_init_446 : decode cX12_init 446 = .ok (.putfield 172, 3) := by decide +kernel
theorem dX12_init_449 : decode cX12_init 449 = .ok (.aload_n 0, 1) := by decide +kernel
theorem dX12_init_450 : decode cX12_init 450 = .ok (.iconst 4, 1) := by decide +kernel
theorem dX12_init_451 : decode cX12_init 451 = .ok (.newarray .int, 2) := by decide +kernel
theorem dX12_init_453 : decode cX12_init 453 = .ok (.putfield 175, 3) := by decide +kernel
theorem dX12_init_456 : decode cX12_init 456 = .ok (.aload_n 0, 1) := by decide +kernel
theorem dX12_init_457 : decode cX12_init 457 = .ok (.iconst 4, 1) := by decide +kernel
theorem dX12_init_458 : decode cX12_init 458 = .ok (.newarray .int, 2) := by decide +kernel
theorem dX12_init_460 : decode cX12_init 460 = .ok (.putfield 178, 3) := by decide +kernel
theorem dX12_init_463 : decode cX12_init 463 = .ok (.aload_n 0, 1) := by decide +kernel
theorem dX12_init_464 : decode cX12_init 464 = .ok (.iconst 4, 1) := by decide +kernel
theorem dX12_init_465 : decode cX12_init 465 = .ok (.newarray .int, 2) := by decide +kernel
theorem dX12_init_467 : decode cX12_init 467 = .ok (.putfield 181, 3) := by decide +kernel
theorem dX12_init_470 : decode cX12_init 470 = .ok (.aload_n 0, 1) := by decide +kernel
theorem dX12_init_471 : decode cX12_init 471 = .ok (.sipush 256, 3) := by decide +kernel
theorem dX12_init_474 : decode cX12_init 474 = .ok (.newarray .int, 2) := by decide +kernel
theorem dX12_init_476 : decode cX12_init 476 = .ok (.putfield 184, 3) := by decide +kernel
theorem dX12_init_479 : decode cX12_init 479 = .ok (.aload_n 0, 1) := by decide +kernel
theorem dX12_init_480 : decode cX12_init 480 = .ok (.sipush 256, 3) := by decide +kernel
theorem dX12_init_483 : decode cX12_init 483 = .ok (.newarray .int, 2) := by decide +kernel
theorem dX12_init_485 : decode cX12_init 485 = .ok (.putfield 187, 3) := by decide +kernel
theorem dX12_init_488 : decode cX12_init 488 = .ok (.aload_n 0, 1) := by decide +kernel
theorem dX12_init_489 : decode cX12_init 489 = .ok (.sipush 256, 3) := by decide +kernel
theorem dX12_init_492 : decode cX12_init 492 = .ok (.newarray .int, 2) := by decide +kernel
theorem dX12_init_494 : decode cX12_init 494 = .ok (.putfield 190, 3) := by decide +kernel
theorem dX12_init_497 : decode cX12_init 497 = .ok (.aload_n 0, 1) := by decide +kernel
theorem dX12_init_498 : decode cX12_init 498 = .ok (.sipush 256, 3) := by decide +kernel
theorem dX12_init_501 : decode cX12_init 501 = .ok (.newarray .int, 2) := by decide +kernel
theorem dX12_init_503 : decode cX12_init 503 = .ok (.putfield 193, 3) := by decide +kernel
theorem dX12_init_506 : decode cX12_init 506 = .ok (.aload_n 0, 1) := by decide +kernel
theorem dX12_init_507 : decode cX12_init 507 = .ok (.sipush 256, 3) := by decide +kernel
theorem dX12_init_510 : decode cX12_init 510 = .ok (.newarray .int, 2) := by decide +kernel
theorem dX12_init_512 : decode cX12_init 512 = .ok (.putfield 196, 3) := by decide +kernel
theorem dX12_init_515 : decode cX12_init 515 = .ok (.aload_n 0, 1) := by decide +kernel
theorem dX12_init_516 : decode cX12_init 516 = .ok (.sipush 200, 3) := by decide +kernel
theorem dX12_init_519 : decode cX12_init 519 = .ok (.newarray .int, 2) := by decide +kernel
theorem dX12_init_521 : decode cX12_init 521 = .ok (.putfield 199, 3) := by decide +kernel
theorem dX12_init_524 : decode cX12_init 524 = .ok (.aload_n 0, 1) := by decide +kernel
theorem dX12_init_525 : decode cX12_init 525 = .ok (.sipush 200, 3) := by decide +kernel
theorem dX12_init_528 : decode cX12_init 528 = .ok (.newarray .int, 2) := by decide +kernel
theorem dX12_init_530 : decode cX12_init 530 = .ok (.putfield 202, 3) := by decide +kernel
theorem dX12_init_533 : decode cX12_init 533 = .ok (.aload_n 0, 1) := by decide +kernel
theorem dX12_init_534 : decode cX12_init 534 = .ok (.sipush 200, 3) := by decide +kernel
theorem dX12_init_537 : decode cX12_init 537 = .ok (.newarray .int, 2) := by decide +kernel
theorem dX12_init_539 : decode cX12_init 539 = .ok (.putfield 205, 3) := by decide +kernel
theorem dX12_init_542 : decode cX12_init 542 = .ok (.aload_n 0, 1) := by decide +kernel
theorem dX12_init_543 : decode cX12_init 543 = .ok (.sipush 200, 3) := by decide +kernel
theorem dX12_init_546 : decode cX12_init 546 = .ok (.newarray .int, 2) := by decide +kernel
theorem dX12_init_548 : decode cX12_init 548 = .ok (.putfield 208, 3) := by decide +kernel
theorem dX12_init_551 : decode cX12_init 551 = .ok (.aload_n 0, 1) := by decide +kernel
theorem dX12_init_552 : decode cX12_init 552 = .ok (.sipush 200, 3) := by decide +kernel
theorem dX12_init_555 : decode cX12_init 555 = .ok (.newarray .int, 2) := by decide +kernel
theorem dX12_init_557 : decode cX12_init 557 = .ok (.putfield 211, 3) := by decide +kernel
theorem dX12_init_560 : decode cX12_init 560 = .ok (.aload_n 0, 1) := by decide +kernel
theorem dX12_init_561 : decode cX12_init 561 = .ok (.bipush 8, 2) := by decide +kernel
theorem dX12_init_563 : decode cX12_init 563 = .ok (.newarray .int, 2) := by decide +kernel
theorem dX12_init_565 : decode cX12_init 565 = .ok (.putfield 214, 3) := by decide +kernel
theorem dX12_init_568 : decode cX12_init 568 = .ok (.aload_n 0, 1) := by decide +kernel
theorem dX12_init_569 : decode cX12_init 569 = .ok (.iconst 4, 1) := by decide +kernel
theorem dX12_init_570 : decode cX12_init 570 = .ok (.newarray .int, 2) := by decide +kernel
theorem dX12_init_572 : decode cX12_init 572 = .ok (.putfield 217, 3) := by decide +kernel
theorem dX12_init_575 : decode cX12_init 575 = .ok (.aload_n 0, 1) := by decide +kernel
theorem dX12_init_576 : decode cX12_init 576 = .ok (.iconst 4, 1) := by decide +kernel
theorem dX12_init_577 : decode cX12_init 577 = .ok (.newarray .int, 2) := by decide +kernel
theorem dX12_init_579 : decode cX12_init 579 = .ok (.putfield 220, 3) := by decide +kernel
theorem dX12_init_582 : decode cX12_init 582 = .ok (.iload_n 1, 1) := by decide +kernel
theorem dX12_init_583 : decode cX12_init 583 = .ok (.iconst 3, 1) := by decide +kernel
theorem dX12_init_584 : decode cX12_init 584 = .ok (.irem, 1) := by decide +kernel
theorem dX12_init_585 : decode cX12_init 585 = .ok (.istore_n 2, 1) := by decide +kernel
theorem dX12_init_586 : decode cX12_init 586 = .ok (.aload_n 0, 1) := by decide +kernel
theorem dX12_init_587 : decode cX12_init 587 = .ok (.iload_n 2, 1) := by decide +kernel
theorem dX12_init_588 : decode cX12_init 588 = .ok (.ifCond .ge 17, 3) := by decide +kernel
theorem dX12_init_591 : decode cX12_init 591 = .ok (.iload_n 2, 1) := by decide +kernel
theorem dX12_init_592 : decode cX12_init 592 = .ok (.iconst (-1), 1) := by decide +kernel
theorem dX12_init_593 : decode cX12_init 593 = .ok (.if_icmp .ne 8, 3) := by decide +kernel
theorem dX12_init_596 : decode cX12_init 596 = .ok (.bipush 7, 2) := by decide +kernel
theorem dX12_init_598 : decode cX12_init 598 = .ok (.goto 12, 3) := by decide +kernel
theorem dX12_init_601 : decode cX12_init 601 = .ok (.iconst 5, 1) := by decide +kernel
theorem dX12_init_602 : decode cX12_init 602 = .ok (.goto 8, 3) := by decide +kernel
theorem dX12_init_605 : decode cX12_init 605 = .ok (.iconst 3, 1) := by decide +kernel
theorem dX12_init_606 : decode cX12_init 606 = .ok (.iconst 2, 1) := by decide +kernel
theorem dX12_init_607 : decode cX12_init 607 = .ok (.iload_n 2, 1) := by decide +kernel
theorem dX12_init_608 : decode cX12_init 608 = .ok (.imul, 1) := by decide +kernel
theorem dX12_init_609 : decode cX12_init 609 = .ok (.iadd, 1) := by decide +kernel
theorem dX12_init_610 : decode cX12_init 610 = .ok (.putfield 223, 3) := by decide +kernel
theorem dX12_init_613 : decode cX12_init 613 = .ok (.aload_n 0, 1) := by decide +kernel
theorem dX12_init_614 : decode cX12_init 614 = .ok (.aload_n 0, 1) := by decide +kernel
theorem dX12_init_615 : decode cX12_init 615 = .ok (.getfield 223, 3) := by decide +kernel
theorem dX12_init_618 : decode cX12_init 618 = .ok (.iconst 2, 1) := by decide +kernel
theorem dX12_init_619 : decode cX12_init 619 = .ok (.idiv, 1) := by decide +kernel
theorem dX12_init_620 : decode cX12_init 620 = .ok (.putfield 226, 3) := by decide +kernel
theorem dX12_init_623 : decode cX12_init 623 = .ok (.iconst 0, 1) := by decide +kernel
theorem dX12_init_624 : decode cX12_init 624 = .ok (.istore_n 3, 1) := by decide +kernel
theorem dX12_init_625 : decode cX12_init 625 = .ok (.iload_n 3, 1) := by decide +kernel
theorem dX12_init_626 : decode cX12_init 626 = .ok (.bipush 7, 2) := by decide +kernel
theorem dX12_init_628 : decode cX12_init 628 = .ok (.if_icmp .ge 23, 3) := by decide +kernel
theorem dX12_init_631 : decode cX12_init 631 = .ok (.aload_n 0, 1) := by decide +kernel
theorem dX12_init_632 : decode cX12_init 632 = .ok (.getfield 91, 3) := by decide +kernel
theorem dX12_init_635 : decode cX12_init 635 = .ok (.iload_n 3, 1) := by decide +kernel
theorem dX12_init_636 : decode cX12_init 636 = .ok (.iconst 1, 1) := by decide +kernel
theorem dX12_init_637 : decode cX12_init 637 = .ok (.iastore, 1) := by decide +kernel
theorem dX12_init_638 : decode cX12_init 638 = .ok (.aload_n 0, 1) := by decide +kernel
theorem dX12_init_639 : decode cX12_init 639 = .ok (.getfield 100, 3) := by decide +kernel
theorem dX12_init_642 : decode cX12_init 642 = .ok (.iload_n 3, 1) := by decide +kernel
theorem dX12_init_643 : decode cX12_init 643 = .ok (.iconst 1, 1) := by decide +kernel
theorem dX12_init_644 : decode cX12_init 644 = .ok (.iastore, 1) := by decide +kernel
theorem dX12_init_645 : decode cX12_init 645 = .ok (.iinc 3 1, 3) := by decide +kernel
theorem dX12_init_648 : decode cX12_init 648 = .ok (.goto (-23), 3) := by decide +kernel
theorem dX12_init_651 : decode cX12_init 651 = .ok (.iconst 0, 1) := by decide +kernel
theorem dX12_init_652 : decode cX12_init 652 = .ok (.istore_n 3, 1) := by decide +kernel
theorem dX12_init_653 : decode cX12_init 653 = .ok (.iload_n 3, 1) := by decide +kernel
theorem dX12_init_654 : decode cX12_init 654 = .ok (.sipush 200, 3) := by decide +kernel
theorem dX12_init_657 : decode cX12_init 657 = .ok (.if_icmp .ge 16, 3) := by decide +kernel
theorem dX12_init_660 : decode cX12_init 660 = .ok (.aload_n 0, 1) := by decide +kernel
theorem dX12_init_661 : decode cX12_init 661 = .ok (.getfield 36, 3) := by decide +kernel
theorem dX12_init_664 : decode cX12_init 664 = .ok (.iload_n 3, 1) := by decide +kernel
theorem dX12_init_665 : decode cX12_init 665 = .ok (.iload_n 3, 1) := by decide +kernel
theorem dX12_init_666 : decode cX12_init 666 = .ok (.iastore, 1) := by decide +kernel
theorem dX12_init_667 : decode cX12_init 667 = .ok (.iinc 3 1, 3) := by decide +kernel
theorem dX12_init_670 : decode cX12_init 670 = .ok (.goto (-17), 3) := by decide +kernel
theorem dX12_init_673 : decode cX12_init 673 = .ok (.return_, 1) := by decide +kernel
theorem dX12_thrown_0 : decode cX12_thrown 0 = .ok (.aload_n 0, 1) := by decide +kernel
theorem dX12_thrown_1 : decode cX12_thrown 1 = .ok (.getfield 229, 3) := by decide +kernel
theorem dX12_thrown_4 : decode cX12_thrown 4 = .ok (.ireturn, 1) := by decide +kernel
theorem dX12_in_0 : decode cX12_in 0 = .ok (.iload_n 0, 1) := by decide +kernel
theorem dX12_in_1 : decode cX12_in 1 = .ok (.ifCond .lt 12, 3) := by decide +kernel
theorem dX12_in_4 : decode cX12_in 4 = .ok (.iload_n 0, 1) := by decide +kernel
theorem dX12_in_5 : decode cX12_in 5 = .ok (.iload_n 1, 1) := by decide +kernel
theorem dX12_in_6 : decode cX12_in 6 = .ok (.if_icmp .ge 7, 3) := by decide +kernel
theorem dX12_in_9 : decode cX12_in 9 = .ok (.iconst 1, 1) := by decide +kernel
theorem dX12_in_10 : decode cX12_in 10 = .ok (.goto 4, 3) := by decide +kernel
theorem dX12_in_13 : decode cX12_in 13 = .ok (.iconst 0, 1) := by decide +kernel
theorem dX12_in_14 : decode cX12_in 14 = .ok (.ireturn, 1) := by decide +kernel
theorem dX12_ones_0 : decode cX12_ones 0 = .ok (.iconst 0, 1) := by decide +kernel
theorem dX12_ones_1 : decode cX12_ones 1 = .ok (.istore_n 1, 1) := by decide +kernel
theorem dX12_ones_2 : decode cX12_ones 2 = .ok (.iconst 0, 1) := by decide +kernel
theorem dX12_ones_3 : decode cX12_ones 3 = .ok (.istore_n 2, 1) := by decide +kernel
theorem dX12_ones_4 : decode cX12_ones 4 = .ok (.iload_n 2, 1) := by decide +kernel
theorem dX12_ones_5 : decode cX12_ones 5 = .ok (.bipush 7, 2) := by decide +kernel
theorem dX12_ones_7 : decode cX12_ones 7 = .ok (.if_icmp .ge 17, 3) := by decide +kernel
theorem dX12_ones_10 : decode cX12_ones 10 = .ok (.iload_n 1, 1) := by decide +kernel
theorem dX12_ones_11 : decode cX12_ones 11 = .ok (.iload_n 0, 1) := by decide +kernel
theorem dX12_ones_12 : decode cX12_ones 12 = .ok (.iload_n 2, 1) := by decide +kernel
theorem dX12_ones_13 : decode cX12_ones 13 = .ok (.ishr, 1) := by decide +kernel
theorem dX12_ones_14 : decode cX12_ones 14 = .ok (.iconst 1, 1) := by decide +kernel
theorem dX12_ones_15 : decode cX12_ones 15 = .ok (.iand, 1) := by decide +kernel
theorem dX12_ones_16 : decode cX12_ones 16 = .ok (.iadd, 1) := by decide +kernel
theorem dX12_ones_17 : decode cX12_ones 17 = .ok (.istore_n 1, 1) := by decide +kernel
theorem dX12_ones_18 : decode cX12_ones 18 = .ok (.iinc 2 1, 3) := by decide +kernel
theorem dX12_ones_21 : decode cX12_ones 21 = .ok (.goto (-17), 3) := by decide +kernel
theorem dX12_ones_24 : decode cX12_ones 24 = .ok (.iload_n 1, 1) := by decide +kernel
theorem dX12_ones_25 : decode cX12_ones 25 = .ok (.ireturn, 1) := by decide +kernel
theorem dX12_send_0 : decode cX12_send 0 = .ok (.aload_n 0, 1) := by decide +kernel
theorem dX12_send_1 : decode cX12_send 1 = .ok (.dup, 1) := by decide +kernel
theorem dX12_send_2 : decode cX12_send 2 = .ok (.getfield 232, 3) := by decide +kernel
theorem dX12_send_5 : decode cX12_send 5 = .ok (.iconst 1, 1) := by decide +kernel
theorem dX12_send_6 : decode cX12_send 6 = .ok (.iadd, 1) := by decide +kernel
theorem dX12_send_7 : decode cX12_send 7 = .ok (.putfield 232, 3) := by decide +kernel
theorem dX12_send_10 : decode cX12_send 10 = .ok (.aload_n 0, 1) := by decide +kernel
theorem dX12_send_11 : decode cX12_send 11 = .ok (.getfield 235, 3) := by decide +kernel
theorem dX12_send_14 : decode cX12_send 14 = .ok (.sipush 200, 3) := by decide +kernel
theorem dX12_send_17 : decode cX12_send 17 = .ok (.if_icmp .ne 15, 3) := by decide +kernel
theorem dX12_send_20 : decode cX12_send 20 = .ok (.aload_n 0, 1) := by decide +kernel
theorem dX12_send_21 : decode cX12_send 21 = .ok (.dup, 1) := by decide +kernel
theorem dX12_send_22 : decode cX12_send 22 = .ok (.getfield 238, 3) := by decide +kernel
theorem dX12_send_25 : decode cX12_send 25 = .ok (.iconst 1, 1) := by decide +kernel
theorem dX12_send_26 : decode cX12_send 26 = .ok (.iadd, 1) := by decide +kernel
theorem dX12_send_27 : decode cX12_send 27 = .ok (.putfield 238, 3) := by decide +kernel
theorem dX12_send_30 : decode cX12_send 30 = .ok (.iconst (-1), 1) := by decide +kernel
theorem dX12_send_31 : decode cX12_send 31 = .ok (.ireturn, 1) := by decide +kernel
theorem dX12_send_32 : decode cX12_send 32 = .ok (.aload_n 0, 1) := by decide +kernel
theorem dX12_send_33 : decode cX12_send 33 = .ok (.getfield 36, 3) := by decide +kernel
theorem dX12_send_36 : decode cX12_send 36 = .ok (.sipush 199, 3) := by decide +kernel
theorem dX12_send_39 : decode cX12_send 39 = .ok (.aload_n 0, 1) := by decide +kernel
theorem dX12_send_40 : decode cX12_send 40 = .ok (.getfield 235, 3) := by decide +kernel
theorem dX12_send_43 : decode cX12_send 43 = .ok (.isub, 1) := by decide +kernel
theorem dX12_send_44 : decode cX12_send 44 = .ok (.iaload, 1) := by decide +kernel
theorem dX12_send_45 : decode cX12_send 45 = .ok (.istore 8, 2) := by decide +kernel
theorem dX12_send_47 : decode cX12_send 47 = .ok (.aload_n 0, 1) := by decide +kernel
theorem dX12_send_48 : decode cX12_send 48 = .ok (.getfield 33, 3) := by decide +kernel
theorem dX12_send_51 : decode cX12_send 51 = .ok (.aload_n 0, 1) := by decide +kernel
theorem dX12_send_52 : decode cX12_send 52 = .ok (.getfield 235, 3) := by decide +kernel
theorem dX12_send_55 : decode cX12_send 55 = .ok (.iload 8, 2) := by decide +kernel
theorem dX12_send_57 : decode cX12_send 57 = .ok (.iastore, 1) := by decide +kernel
theorem dX12_send_58 : decode cX12_send 58 = .ok (.aload_n 0, 1) := by decide +kernel
theorem dX12_send_59 : decode cX12_send 59 = .ok (.dup, 1) := by decide +kernel
theorem dX12_send_60 : decode cX12_send 60 = .ok (.getfield 235, 3) := by decide +kernel
theorem dX12_send_63 : decode cX12_send 63 = .ok (.iconst 1, 1) := by decide +kernel
theorem dX12_send_64 : decode cX12_send 64 = .ok (.iadd, 1) := by decide +kernel
theorem dX12_send_65 : decode cX12_send 65 = .ok (.putfield 235, 3) := by decide +kernel
theorem dX12_send_68 : decode cX12_send 68 = .ok (.aload_n 0, 1) := by decide +kernel
theorem dX12_send_69 : decode cX12_send 69 = .ok (.getfield 39, 3) := by decide +kernel
theorem dX12_send_72 : decode cX12_send 72 = .ok (.iload 8, 2) := by decide +kernel
theorem dX12_send_74 : decode cX12_send 74 = .ok (.aload_n 0, 1) := by decide +kernel
theorem dX12_send_75 : decode cX12_send 75 = .ok (.getfield 232, 3) := by decide +kernel
theorem dX12_send_78 : decode cX12_send 78 = .ok (.iconst 1, 1) := by decide +kernel
theorem dX12_send_79 : decode cX12_send 79 = .ok (.isub, 1) := by decide +kernel
theorem dX12_send_80 : decode cX12_send 80 = .ok (.iastore, 1) := by decide +kernel
theorem dX12_send_81 : decode cX12_send 81 = .ok (.aload_n 0, 1) := by decide +kernel
theorem dX12_send_82 : decode cX12_send 82 = .ok (.getfield 42, 3) := by decide +kernel
theorem dX12_send_85 : decode cX12_send 85 = .ok (.iload 8, 2) := by decide +kernel
theorem dX12_send_87 : decode cX12_send 87 = .ok (.iload_n 1, 1) := by decide +kernel
theorem dX12_send_88 : decode cX12_send 88 = .ok (.iastore, 1) := by decide +kernel
theorem dX12_send_89 : decode cX12_send 89 = .ok (.aload_n 0, 1) := by decide +kernel
theorem dX12_send_90 : decode cX12_send 90 = .ok (.getfield 45, 3) := by decide +kernel
theorem dX12_send_93 : decode cX12_send 93 = .ok (.iload 8, 2) := by decide +kernel
theorem dX12_send_95 : decode cX12_send 95 = .ok (.iload_n 2, 1) := by decide +kernel
theorem dX12_send_96 : decode cX12_send 96 = .ok (.iastore, 1) := by decide +kernel
theorem dX12_send_97 : decode cX12_send 97 = .ok (.aload_n 0, 1) := by decide +kernel
theorem dX12_send_98 : decode cX12_send 98 = .ok (.getfield 48, 3) := by decide +kernel
theorem dX12_send_101 : decode cX12_send 101 = .ok (.iload 8, 2) := by decide +kernel
theorem dX12_send_103 : decode cX12_send 103 = .ok (.iload_n 3, 1) := by decide +kernel
theorem dX12_send_104 : decode cX12_send 104 = .ok (.iastore, 1) := by decide +kernel
theorem dX12_send_105 : decode cX12_send 105 = .ok (.aload_n 0, 1) := by decide +kernel
theorem dX12_send_106 : decode cX12_send 106 = .ok (.getfield 51, 3) := by decide +kernel
theorem dX12_send_109 : decode cX12_send 109 = .ok (.iload 8, 2) := by decide +kernel
theorem dX12_send_111 : decode cX12_send 111 = .ok (.iload 4, 2) := by decide +kernel
theorem dX12_send_113 : decode cX12_send 113 = .ok (.iastore, 1) := by decide +kernel
theorem dX12_send_114 : decode cX12_send 114 = .ok (.aload_n 0, 1) := by decide +kernel
theorem dX12_send_115 : decode cX12_send 115 = .ok (.getfield 54, 3) := by decide +kernel
theorem dX12_send_118 : decode cX12_send 118 = .ok (.iload 8, 2) := by decide +kernel
theorem dX12_send_120 : decode cX12_send 120 = .ok (.iload 5, 2) := by decide +kernel
theorem dX12_send_122 : decode cX12_send 122 = .ok (.iastore, 1) := by decide +kernel
theorem dX12_send_123 : decode cX12_send 123 = .ok (.aload_n 0, 1) := by decide +kernel
theorem dX12_send_124 : decode cX12_send 124 = .ok (.getfield 57, 3) := by decide +kernel
theorem dX12_send_127 : decode cX12_send 127 = .ok (.iload 8, 2) := by decide +kernel
theorem dX12_send_129 : decode cX12_send 129 = .ok (.iload 6, 2) := by decide +kernel
theorem dX12_send_131 : decode cX12_send 131 = .ok (.iastore, 1) := by decide +kernel
theorem dX12_send_132 : decode cX12_send 132 = .ok (.aload_n 0, 1) := by decide +kernel
theorem dX12_send_133 : decode cX12_send 133 = .ok (.getfield 60, 3) := by decide +kernel
theorem dX12_send_136 : decode cX12_send 136 = .ok (.iload 8, 2) := by decide +kernel
theorem dX12_send_138 : decode cX12_send 138 = .ok (.iload 7, 2) := by decide +kernel
theorem dX12_send_140 : decode cX12_send 140 = .ok (.iastore, 1) := by decide +kernel
theorem dX12_send_141 : decode cX12_send 141 = .ok (.aload_n 0, 1) := by decide +kernel
theorem dX12_send_142 : decode cX12_send 142 = .ok (.getfield 78, 3) := by decide +kernel
theorem dX12_send_145 : decode cX12_send 145 = .ok (.iload 8, 2) := by decide +kernel
theorem dX12_send_147 : decode cX12_send 147 = .ok (.iconst 0, 1) := by decide +kernel
theorem dX12_send_148 : decode cX12_send 148 = .ok (.bastore, 1) := by decide +kernel
theorem dX12_send_149 : decode cX12_send 149 = .ok (.aload_n 0, 1) := by decide +kernel
theorem dX12_send_150 : decode cX12_send 150 = .ok (.getfield 75, 3) := by decide +kernel
theorem dX12_send_153 : decode cX12_send 153 = .ok (.iload 8, 2) := by decide +kernel
theorem dX12_send_155 : decode cX12_send 155 = .ok (.iconst 0, 1) := by decide +kernel
theorem dX12_send_156 : decode cX12_send 156 = .ok (.iastore, 1) := by decide +kernel
theorem dX12_send_157 : decode cX12_send 157 = .ok (.iload 8, 2) := by decide +kernel
theorem dX12_send_159 : decode cX12_send 159 = .ok (.ireturn, 1) := by decide +kernel
theorem dX12_taken_0 : decode cX12_taken 0 = .ok (.aload_n 0, 1) := by decide +kernel
theorem dX12_taken_1 : decode cX12_taken 1 = .ok (.getfield 33, 3) := by decide +kernel
theorem dX12_taken_4 : decode cX12_taken 4 = .ok (.iload_n 1, 1) := by decide +kernel
theorem dX12_taken_5 : decode cX12_taken 5 = .ok (.iaload, 1) := by decide +kernel
theorem dX12_taken_6 : decode cX12_taken 6 = .ok (.istore_n 2, 1) := by decide +kernel
theorem dX12_taken_7 : decode cX12_taken 7 = .ok (.aload_n 0, 1) := by decide +kernel
theorem dX12_taken_8 : decode cX12_taken 8 = .ok (.dup, 1) := by decide +kernel
theorem dX12_taken_9 : decode cX12_taken 9 = .ok (.getfield 235, 3) := by decide +kernel
theorem dX12_taken_12 : decode cX12_taken 12 = .ok (.iconst 1, 1) := by decide +kernel
theorem dX12_taken_13 : decode cX12_taken 13 = .ok (.isub, 1) := by decide +kernel
theorem dX12_taken_14 : decode cX12_taken 14 = .ok (.putfield 235, 3) := by decide +kernel
theorem dX12_taken_17 : decode cX12_taken 17 = .ok (.iload_n 1, 1) := by decide +kernel
theorem dX12_taken_18 : decode cX12_taken 18 = .ok (.istore_n 3, 1) := by decide +kernel
theorem dX12_taken_19 : decode cX12_taken 19 = .ok (.iload_n 3, 1) := by decide +kernel
theorem dX12_taken_20 : decode cX12_taken 20 = .ok (.aload_n 0, 1) := by decide +kernel
theorem dX12_taken_21 : decode cX12_taken 21 = .ok (.getfield 235, 3) := by decide +kernel
theorem dX12_taken_24 : decode cX12_taken 24 = .ok (.if_icmp .ge 23, 3) := by decide +kernel
theorem dX12_taken_27 : decode cX12_taken 27 = .ok (.aload_n 0, 1) := by decide +kernel
theorem dX12_taken_28 : decode cX12_taken 28 = .ok (.getfield 33, 3) := by decide +kernel
theorem dX12_taken_31 : decode cX12_taken 31 = .ok (.iload_n 3, 1) := by decide +kernel
theorem dX12_taken_32 : decode cX12_taken 32 = .ok (.aload_n 0, 1) := by decide +kernel
theorem dX12_taken_33 : decode cX12_taken 33 = .ok (.getfield 33, 3) := by decide +kernel
theorem dX12_taken_36 : decode cX12_taken 36 = .ok (.iload_n 3, 1) := by decide +kernel
theorem dX12_taken_37 : decode cX12_taken 37 = .ok (.iconst 1, 1) := by decide +kernel
theorem dX12_taken_38 : decode cX12_taken 38 = .ok (.iadd, 1) := by decide +kernel
theorem dX12_taken_39 : decode cX12_taken 39 = .ok (.iaload, 1) := by decide +kernel
theorem dX12_taken_40 : decode cX12_taken 40 = .ok (.iastore, 1) := by decide +kernel
theorem dX12_taken_41 : decode cX12_taken 41 = .ok (.iinc 3 1, 3) := by decide +kernel
theorem dX12_taken_44 : decode cX12_taken 44 = .ok (.goto (-25), 3) := by decide +kernel
theorem dX12_taken_47 : decode cX12_taken 47 = .ok (.aload_n 0, 1) := by decide +kernel
theorem dX12_taken_48 : decode cX12_taken 48 = .ok (.getfield 36, 3) := by decide +kernel
theorem dX12_taken_51 : decode cX12_taken 51 = .ok (.sipush 199, 3) := by decide +kernel
theorem dX12_taken_54 : decode cX12_taken 54 = .ok (.aload_n 0, 1) := by decide +kernel
theorem dX12_taken_55 : decode cX12_taken 55 = .ok (.getfield 235, 3) := by decide +kernel
theorem dX12_taken_58 : decode cX12_taken 58 = .ok (.isub, 1) := by decide +kernel
theorem dX12_taken_59 : decode cX12_taken 59 = .ok (.iload_n 2, 1) := by decide +kernel
theorem dX12_taken_60 : decode cX12_taken 60 = .ok (.iastore, 1) := by decide +kernel
theorem dX12_taken_61 : decode cX12_taken 61 = .ok (.iload_n 2, 1) := by decide +kernel
theorem dX12_taken_62 : decode cX12_taken 62 = .ok (.ireturn, 1) := by decide +kernel
theorem dX12_find_0 : decode cX12_find 0 = .ok (.iconst 0, 1) := by decide +kernel
theorem dX12_find_1 : decode cX12_find 1 = .ok (.istore_n 2, 1) := by decide +kernel
theorem dX12_find_2 : decode cX12_find 2 = .ok (.iload_n 2, 1) := by decide +kernel
theorem dX12_find_3 : decode cX12_find 3 = .ok (.aload_n 0, 1) := by decide +kernel
theorem dX12_find_4 : decode cX12_find 4 = .ok (.getfield 235, 3) := by decide +kernel
theorem dX12_find_7 : decode cX12_find 7 = .ok (.if_icmp .ge 26, 3) := by decide +kernel
theorem dX12_find_10 : decode cX12_find 10 = .ok (.aload_n 0, 1) := by decide +kernel
theorem dX12_find_11 : decode cX12_find 11 = .ok (.getfield 39, 3) := by decide +kernel
theorem dX12_find_14 : decode cX12_find 14 = .ok (.aload_n 0, 1) := by decide +kernel
theorem dX12_find_15 : decode cX12_find 15 = .ok (.getfield 33, 3) := by decide +kernel
theorem dX12_find_18 : decode cX12_find 18 = .ok (.iload_n 2, 1) := by decide +kernel
theorem dX12_find_19 : decode cX12_find 19 = .ok (.iaload, 1) := by decide +kernel
theorem dX12_find_20 : decode cX12_find 20 = .ok (.iaload, 1) := by decide +kernel
theorem dX12_find_21 : decode cX12_find 21 = .ok (.iload_n 1, 1) := by decide +kernel
theorem dX12_find_22 : decode cX12_find 22 = .ok (.if_icmp .ne 5, 3) := by decide +kernel
theorem dX12_find_25 : decode cX12_find 25 = .ok (.iload_n 2, 1) := by decide +kernel
theorem dX12_find_26 : decode cX12_find 26 = .ok (.ireturn, 1) := by decide +kernel
theorem dX12_find_27 : decode cX12_find 27 = .ok (.iinc 2 1, 3) := by decide +kernel
theorem dX12_find_30 : decode cX12_find 30 = .ok (.goto (-28), 3) := by decide +kernel
theorem dX12_find_33 : decode cX12_find 33 = .ok (.iconst (-1), 1) := by decide +kernel
theorem dX12_find_34 : decode cX12_find 34 = .ok (.ireturn, 1) := by decide +kernel
theorem dX12_all_0 : decode cX12_all 0 = .ok (.iconst 0, 1) := by decide +kernel
theorem dX12_all_1 : decode cX12_all 1 = .ok (.istore 4, 2) := by decide +kernel
theorem dX12_all_3 : decode cX12_all 3 = .ok (.iload 4, 2) := by decide +kernel
theorem dX12_all_5 : decode cX12_all 5 = .ok (.aload_n 0, 1) := by decide +kernel
theorem dX12_all_6 : decode cX12_all 6 = .ok (.getfield 223, 3) := by decide +kernel
theorem dX12_all_9 : decode cX12_all 9 = .ok (.if_icmp .ge 38, 3) := by decide +kernel
theorem dX12_all_12 : decode cX12_all 12 = .ok (.iload 4, 2) := by decide +kernel
theorem dX12_all_14 : decode cX12_all 14 = .ok (.iload_n 2, 1) := by decide +kernel
theorem dX12_all_15 : decode cX12_all 15 = .ok (.if_icmp .eq 26, 3) := by decide +kernel
theorem dX12_all_18 : decode cX12_all 18 = .ok (.aload_n 0, 1) := by decide +kernel
theorem dX12_all_19 : decode cX12_all 19 = .ok (.iload_n 1, 1) := by decide +kernel
theorem dX12_all_20 : decode cX12_all 20 = .ok (.iload_n 2, 1) := by decide +kernel
theorem dX12_all_21 : decode cX12_all 21 = .ok (.iload 4, 2) := by decide +kernel
theorem dX12_all_23 : decode cX12_all 23 = .ok (.aload_n 0, 1) := by decide +kernel
theorem dX12_all_24 : decode cX12_all 24 = .ok (.getfield 88, 3) := by decide +kernel
theorem dX12_all_27 : decode cX12_all 27 = .ok (.iload_n 2, 1) := by decide +kernel
theorem dX12_all_28 : decode cX12_all 28 = .ok (.iaload, 1) := by decide +kernel
theorem dX12_all_29 : decode cX12_all 29 = .ok (.aload_n 0, 1) := by decide +kernel
theorem dX12_all_30 : decode cX12_all 30 = .ok (.getfield 91, 3) := by decide +kernel
theorem dX12_all_33 : decode cX12_all 33 = .ok (.iload_n 2, 1) := by decide +kernel
theorem dX12_all_34 : decode cX12_all 34 = .ok (.iaload, 1) := by decide +kernel
theorem dX12_all_35 : decode cX12_all 35 = .ok (.iload_n 3, 1) := by decide +kernel
theorem dX12_all_36 : decode cX12_all 36 = .ok (.iconst 0, 1) := by decide +kernel
theorem dX12_all_37 : decode cX12_all 37 = .ok (.invokevirtual 241, 3) := by decide +kernel
theorem dX12_all_40 : decode cX12_all 40 = .ok (.pop, 1) := by decide +kernel
theorem dX12_all_41 : decode cX12_all 41 = .ok (.iinc 4 1, 3) := by decide +kernel
theorem dX12_all_44 : decode cX12_all 44 = .ok (.goto (-41), 3) := by decide +kernel
theorem dX12_all_47 : decode cX12_all 47 = .ok (.return_, 1) := by decide +kernel
theorem dX12_load_0 : decode cX12_load 0 = .ok (.iload_n 1, 1) := by decide +kernel
theorem dX12_load_1 : decode cX12_load 1 = .ok (.iconst (-1), 1) := by decide +kernel
theorem dX12_load_2 : decode cX12_load 2 = .ok (.if_icmp .ne 4, 3) := by decide +kernel
theorem dX12_load_5 : decode cX12_load 5 = .ok (.return_, 1) := by decide +kernel
theorem dX12_load_6 : decode cX12_load 6 = .ok (.aload_n 0, 1) := by decide +kernel
theorem dX12_load_7 : decode cX12_load 7 = .ok (.getfield 72, 3) := by decide +kernel
theorem dX12_load_10 : decode cX12_load 10 = .ok (.iload_n 1, 1) := by decide +kernel
theorem dX12_load_11 : decode cX12_load 11 = .ok (.aload_n 0, 1) := by decide +kernel
theorem dX12_load_12 : decode cX12_load 12 = .ok (.getfield 106, 3) := by decide +kernel
theorem dX12_load_15 : decode cX12_load 15 = .ok (.iload_n 2, 1) := by decide +kernel
theorem dX12_load_16 : decode cX12_load 16 = .ok (.iaload, 1) := by decide +kernel
theorem dX12_load_17 : decode cX12_load 17 = .ok (.iastore, 1) := by decide +kernel
theorem dX12_load_18 : decode cX12_load 18 = .ok (.aload_n 0, 1) := by decide +kernel
theorem dX12_load_19 : decode cX12_load 19 = .ok (.getfield 66, 3) := by decide +kernel
theorem dX12_load_22 : decode cX12_load 22 = .ok (.iload_n 1, 1) := by decide +kernel
theorem dX12_load_23 : decode cX12_load 23 = .ok (.aload_n 0, 1) := by decide +kernel
theorem dX12_load_24 : decode cX12_load 24 = .ok (.getfield 97, 3) := by decide +kernel
theorem dX12_load_27 : decode cX12_load 27 = .ok (.iload_n 2, 1) := by decide +kernel
theorem dX12_load_28 : decode cX12_load 28 = .ok (.iaload, 1) := by decide +kernel
theorem dX12_load_29 : decode cX12_load 29 = .ok (.iastore, 1) := by decide +kernel
theorem dX12_load_30 : decode cX12_load 30 = .ok (.aload_n 0, 1) := by decide +kernel
theorem dX12_load_31 : decode cX12_load 31 = .ok (.getfield 69, 3) := by decide +kernel
theorem dX12_load_34 : decode cX12_load 34 = .ok (.iload_n 1, 1) := by decide +kernel
theorem dX12_load_35 : decode cX12_load 35 = .ok (.aload_n 0, 1) := by decide +kernel
theorem dX12_load_36 : decode cX12_load 36 = .ok (.getfield 100, 3) := by decide +kernel
theorem dX12_load_39 : decode cX12_load 39 = .ok (.iload_n 2, 1) := by decide +kernel
theorem dX12_load_40 : decode cX12_load 40 = .ok (.iaload, 1) := by decide +kernel
theorem dX12_load_41 : decode cX12_load 41 = .ok (.iastore, 1) := by decide +kernel
theorem dX12_load_42 : decode cX12_load 42 = .ok (.aload_n 0, 1) := by decide +kernel
theorem dX12_load_43 : decode cX12_load 43 = .ok (.getfield 75, 3) := by decide +kernel
theorem dX12_load_46 : decode cX12_load 46 = .ok (.iload_n 1, 1) := by decide +kernel
theorem dX12_load_47 : decode cX12_load 47 = .ok (.iload_n 3, 1) := by decide +kernel
theorem dX12_load_48 : decode cX12_load 48 = .ok (.iastore, 1) := by decide +kernel
theorem dX12_load_49 : decode cX12_load 49 = .ok (.iconst 0, 1) := by decide +kernel
theorem dX12_load_50 : decode cX12_load 50 = .ok (.istore 4, 2) := by decide +kernel
theorem dX12_load_52 : decode cX12_load 52 = .ok (.iload 4, 2) := by decide +kernel
theorem dX12_load_54 : decode cX12_load 54 = .ok (.iload_n 3, 1) := by decide +kernel
theorem dX12_load_55 : decode cX12_load 55 = .ok (.if_icmp .ge 33, 3) := by decide +kernel
theorem dX12_load_58 : decode cX12_load 58 = .ok (.aload_n 0, 1) := by decide +kernel
theorem dX12_load_59 : decode cX12_load 59 = .ok (.getfield 82, 3) := by decide +kernel
theorem dX12_load_62 : decode cX12_load 62 = .ok (.bipush 100, 2) := by decide +kernel
theorem dX12_load_64 : decode cX12_load 64 = .ok (.iload_n 1, 1) := by decide +kernel
theorem dX12_load_65 : decode cX12_load 65 = .ok (.imul, 1) := by decide +kernel
theorem dX12_load_66 : decode cX12_load 66 = .ok (.iload 4, 2) := by decide +kernel
theorem dX12_load_68 : decode cX12_load 68 = .ok (.iadd, 1) := by decide +kernel
theorem dX12_load_69 : decode cX12_load 69 = .ok (.aload_n 0, 1) := by decide +kernel
theorem dX12_load_70 : decode cX12_load 70 = .ok (.getfield 115, 3) := by decide +kernel
theorem dX12_load_73 : decode cX12_load 73 = .ok (.bipush 100, 2) := by decide +kernel
theorem dX12_load_75 : decode cX12_load 75 = .ok (.iload_n 2, 1) := by decide +kernel
theorem dX12_load_76 : decode cX12_load 76 = .ok (.imul, 1) := by decide +kernel
theorem dX12_load_77 : decode cX12_load 77 = .ok (.iload 4, 2) := by decide +kernel
theorem dX12_load_79 : decode cX12_load 79 = .ok (.iadd, 1) := by decide +kernel
theorem dX12_load_80 : decode cX12_load 80 = .ok (.iaload, 1) := by decide +kernel
theorem dX12_load_81 : decode cX12_load 81 = .ok (.iastore, 1) := by decide +kernel
theorem dX12_load_82 : decode cX12_load 82 = .ok (.iinc 4 1, 3) := by decide +kernel
theorem dX12_load_85 : decode cX12_load 85 = .ok (.goto (-33), 3) := by decide +kernel
theorem dX12_load_88 : decode cX12_load 88 = .ok (.return_, 1) := by decide +kernel
theorem dX12_stamp_0 : decode cX12_stamp 0 = .ok (.aload_n 0, 1) := by decide +kernel
theorem dX12_stamp_1 : decode cX12_stamp 1 = .ok (.getfield 25, 3) := by decide +kernel
theorem dX12_stamp_4 : decode cX12_stamp 4 = .ok (.ifCond .ne 4, 3) := by decide +kernel
theorem dX12_stamp_7 : decode cX12_stamp 7 = .ok (.return_, 1) := by decide +kernel
theorem dX12_stamp_8 : decode cX12_stamp 8 = .ok (.aload_n 0, 1) := by decide +kernel
theorem dX12_stamp_9 : decode cX12_stamp 9 = .ok (.dup, 1) := by decide +kernel
theorem dX12_stamp_10 : decode cX12_stamp 10 = .ok (.getfield 245, 3) := by decide +kernel
theorem dX12_stamp_13 : decode cX12_stamp 13 = .ok (.iconst 1, 1) := by decide +kernel
theorem dX12_stamp_14 : decode cX12_stamp 14 = .ok (.iadd, 1) := by decide +kernel
theorem dX12_stamp_15 : decode cX12_stamp 15 = .ok (.putfield 245, 3) := by decide +kernel
theorem dX12_stamp_18 : decode cX12_stamp 18 = .ok (.iconst 0, 1) := by decide +kernel
theorem dX12_stamp_19 : decode cX12_stamp 19 = .ok (.istore_n 2, 1) := by decide +kernel
theorem dX12_stamp_20 : decode cX12_stamp 20 = .ok (.iload_n 2, 1) := by decide +kernel
theorem dX12_stamp_21 : decode cX12_stamp 21 = .ok (.aload_n 0, 1) := by decide +kernel
theorem dX12_stamp_22 : decode cX12_stamp 22 = .ok (.getfield 223, 3) := by decide +kernel
theorem dX12_stamp_25 : decode cX12_stamp 25 = .ok (.if_icmp .ge 27, 3) := by decide +kernel
theorem dX12_stamp_28 : decode cX12_stamp 28 = .ok (.aload_n 0, 1) := by decide +kernel
theorem dX12_stamp_29 : decode cX12_stamp 29 = .ok (.iconst 0, 1) := by decide +kernel
theorem dX12_stamp_30 : decode cX12_stamp 30 = .ok (.iconst (-1), 1) := by decide +kernel
theorem dX12_stamp_31 : decode cX12_stamp 31 = .ok (.iload_n 2, 1) := by decide +kernel
theorem dX12_stamp_32 : decode cX12_stamp 32 = .ok (.iconst 0, 1) := by decide +kernel
theorem dX12_stamp_33 : decode cX12_stamp 33 = .ok (.aload_n 0, 1) := by decide +kernel
theorem dX12_stamp_34 : decode cX12_stamp 34 = .ok (.getfield 29, 3) := by decide +kernel
theorem dX12_stamp_37 : decode cX12_stamp 37 = .ok (.aload_n 0, 1) := by decide +kernel
theorem dX12_stamp_38 : decode cX12_stamp 38 = .ok (.getfield 245, 3) := by decide +kernel
theorem dX12_stamp_41 : decode cX12_stamp 41 = .ok (.iload_n 1, 1) := by decide +kernel
theorem dX12_stamp_42 : decode cX12_stamp 42 = .ok (.invokevirtual 241, 3) := by decide +kernel
theorem dX12_stamp_45 : decode cX12_stamp 45 = .ok (.pop, 1) := by decide +kernel
theorem dX12_stamp_46 : decode cX12_stamp 46 = .ok (.iinc 2 1, 3) := by decide +kernel
theorem dX12_stamp_49 : decode cX12_stamp 49 = .ok (.goto (-29), 3) := by decide +kernel
theorem dX12_stamp_52 : decode cX12_stamp 52 = .ok (.return_, 1) := by decide +kernel
theorem dX12_execute_0 : decode cX12_execute 0 = .ok (.iconst 0, 1) := by decide +kernel
theorem dX12_execute_1 : decode cX12_execute 1 = .ok (.istore_n 3, 1) := by decide +kernel
theorem dX12_execute_2 : decode cX12_execute 2 = .ok (.iload_n 3, 1) := by decide +kernel
theorem dX12_execute_3 : decode cX12_execute 3 = .ok (.bipush 8, 2) := by decide +kernel
theorem dX12_execute_5 : decode cX12_execute 5 = .ok (.if_icmp .ge 16, 3) := by decide +kernel
theorem dX12_execute_8 : decode cX12_execute 8 = .ok (.aload_n 0, 1) := by decide +kernel
theorem dX12_execute_9 : decode cX12_execute 9 = .ok (.getfield 214, 3) := by decide +kernel
theorem dX12_execute_12 : decode cX12_execute 12 = .ok (.iload_n 3, 1) := by decide +kernel
theorem dX12_execute_13 : decode cX12_execute 13 = .ok (.iconst 0, 1) := by decide +kernel
theorem dX12_execute_14 : decode cX12_execute 14 = .ok (.iastore, 1) := by decide +kernel
theorem dX12_execute_15 : decode cX12_execute 15 = .ok (.iinc 3 1, 3) := by decide +kernel
theorem dX12_execute_18 : decode cX12_execute 18 = .ok (.goto (-16), 3) := by decide +kernel
theorem dX12_execute_21 : decode cX12_execute 21 = .ok (.iconst 0, 1) := by decide +kernel
theorem dX12_execute_22 : decode cX12_execute 22 = .ok (.istore_n 3, 1) := by decide +kernel
theorem dX12_execute_23 : decode cX12_execute 23 = .ok (.iload_n 3, 1) := by decide +kernel
theorem dX12_execute_24 : decode cX12_execute 24 = .ok (.iconst 4, 1) := by decide +kernel
theorem dX12_execute_25 : decode cX12_execute 25 = .ok (.if_icmp .ge 23, 3) := by decide +kernel
theorem dX12_execute_28 : decode cX12_execute 28 = .ok (.aload_n 0, 1) := by decide +kernel
theorem dX12_execute_29 : decode cX12_execute 29 = .ok (.getfield 217, 3) := by decide +kernel
theorem dX12_execute_32 : decode cX12_execute 32 = .ok (.iload_n 3, 1) := by decide +kernel
theorem dX12_execute_33 : decode cX12_execute 33 = .ok (.iconst 0, 1) := by decide +kernel
theorem dX12_execute_34 : decode cX12_execute 34 = .ok (.iastore, 1) := by decide +kernel
theorem dX12_execute_35 : decode cX12_execute 35 = .ok (.aload_n 0, 1) := by decide +kernel
theorem dX12_execute_36 : decode cX12_execute 36 = .ok (.getfield 220, 3) := by decide +kernel
theorem dX12_execute_39 : decode cX12_execute 39 = .ok (.iload_n 3, 1) := by decide +kernel
theorem dX12_execute_40 : decode cX12_execute 40 = .ok (.iconst 0, 1) := by decide +kernel
theorem dX12_execute_41 : decode cX12_execute 41 = .ok (.iastore, 1) := by decide +kernel
theorem dX12_execute_42 : decode cX12_execute 42 = .ok (.iinc 3 1, 3) := by decide +kernel
theorem dX12_execute_45 : decode cX12_execute 45 = .ok (.goto (-22), 3) := by decide +kernel
theorem dX12_execute_48 : decode cX12_execute 48 = .ok (.iconst 0, 1) := by decide +kernel
theorem dX12_execute_49 : decode cX12_execute 49 = .ok (.istore_n 3, 1) := by decide +kernel
theorem dX12_execute_50 : decode cX12_execute 50 = .ok (.iload_n 3, 1) := by decide +kernel
theorem dX12_execute_51 : decode cX12_execute 51 = .ok (.iload_n 2, 1) := by decide +kernel
theorem dX12_execute_52 : decode cX12_execute 52 = .ok (.if_icmp .ge 152, 3) := by decide +kernel
theorem dX12_execute_55 : decode cX12_execute 55 = .ok (.aload_n 0, 1) := by decide +kernel
theorem dX12_execute_56 : decode cX12_execute 56 = .ok (.getfield 115, 3) := by decide +kernel
theorem dX12_execute_59 : decode cX12_execute 59 = .ok (.bipush 100, 2) := by decide +kernel
theorem dX12_execute_61 : decode cX12_execute 61 = .ok (.iload_n 1, 1) := by decide +kernel
theorem dX12_execute_62 : decode cX12_execute 62 = .ok (.imul, 1) := by decide +kernel
theorem dX12_execute_63 : decode cX12_execute 63 = .ok (.iload_n 3, 1) := by decide +kernel
theorem dX12_execute_64 : decode cX12_execute 64 = .ok (.iadd, 1) := by decide +kernel
theorem dX12_execute_65 : decode cX12_execute 65 = .ok (.iaload, 1) := by decide +kernel
theorem dX12_execute_66 : decode cX12_execute 66 = .ok (.istore 4, 2) := by decide +kernel
theorem dX12_execute_68 : decode cX12_execute 68 = .ok (.iload 4, 2) := by decide +kernel
theorem dX12_execute_70 : decode cX12_execute 70 = .ok (.ifCond .eq 128, 3) := by decide +kernel
theorem dX12_execute_73 : decode cX12_execute 73 = .ok (.aload_n 0, 1) := by decide +kernel
theorem dX12_execute_74 : decode cX12_execute 74 = .ok (.getfield 13, 3) := by decide +kernel
theorem dX12_execute_77 : decode cX12_execute 77 = .ok (.iload 4, 2) := by decide +kernel
theorem dX12_execute_79 : decode cX12_execute 79 = .ok (.iaload, 1) := by decide +kernel
theorem dX12_execute_80 : decode cX12_execute 80 = .ok (.aload_n 0, 1) := by decide +kernel
theorem dX12_execute_81 : decode cX12_execute 81 = .ok (.getfield 217, 3) := by decide +kernel
theorem dX12_execute_84 : decode cX12_execute 84 = .ok (.aload_n 0, 1) := by decide +kernel
theorem dX12_execute_85 : decode cX12_execute 85 = .ok (.getfield 7, 3) := by decide +kernel
theorem dX12_execute_88 : decode cX12_execute 88 = .ok (.iload 4, 2) := by decide +kernel
theorem dX12_execute_90 : decode cX12_execute 90 = .ok (.iaload, 1) := by decide +kernel
theorem dX12_execute_91 : decode cX12_execute 91 = .ok (.iaload, 1) := by decide +kernel
theorem dX12_execute_92 : decode cX12_execute 92 = .ok (.if_icmp .gt 6, 3) := by decide +kernel
theorem dX12_execute_95 : decode cX12_execute 95 = .ok (.goto 103, 3) := by decide +kernel
theorem dX12_execute_98 : decode cX12_execute 98 = .ok (.aload_n 0, 1) := by decide +kernel
theorem dX12_execute_99 : decode cX12_execute 99 = .ok (.getfield 19, 3) := by decide +kernel
theorem dX12_execute_102 : decode cX12_execute 102 = .ok (.iload 4, 2) := by decide +kernel
theorem dX12_execute_104 : decode cX12_execute 104 = .ok (.iaload, 1) := by decide +kernel
theorem dX12_execute_105 : decode cX12_execute 105 = .ok (.istore 5, 2) := by decide +kernel
theorem dX12_execute_107 : decode cX12_execute 107 = .ok (.aload_n 0, 1) := by decide +kernel
theorem dX12_execute_108 : decode cX12_execute 108 = .ok (.getfield 217, 3) := by decide +kernel
theorem dX12_execute_111 : decode cX12_execute 111 = .ok (.aload_n 0, 1) := by decide +kernel
theorem dX12_execute_112 : decode cX12_execute 112 = .ok (.getfield 7, 3) := by decide +kernel
theorem dX12_execute_115 : decode cX12_execute 115 = .ok (.iload 4, 2) := by decide +kernel
theorem dX12_execute_117 : decode cX12_execute 117 = .ok (.iaload, 1) := by decide +kernel
theorem dX12_execute_118 : decode cX12_execute 118 = .ok (.aload_n 0, 1) := by decide +kernel
theorem dX12_execute_119 : decode cX12_execute 119 = .ok (.getfield 13, 3) := by decide +kernel
theorem dX12_execute_122 : decode cX12_execute 122 = .ok (.iload 4, 2) := by decide +kernel
theorem dX12_execute_124 : decode cX12_execute 124 = .ok (.iaload, 1) := by decide +kernel
theorem dX12_execute_125 : decode cX12_execute 125 = .ok (.iastore, 1) := by decide +kernel
theorem dX12_execute_126 : decode cX12_execute 126 = .ok (.aload_n 0, 1) := by decide +kernel
theorem dX12_execute_127 : decode cX12_execute 127 = .ok (.getfield 220, 3) := by decide +kernel
theorem dX12_execute_130 : decode cX12_execute 130 = .ok (.aload_n 0, 1) := by decide +kernel
theorem dX12_execute_131 : decode cX12_execute 131 = .ok (.getfield 7, 3) := by decide +kernel
theorem dX12_execute_134 : decode cX12_execute 134 = .ok (.iload 4, 2) := by decide +kernel
theorem dX12_execute_136 : decode cX12_execute 136 = .ok (.iaload, 1) := by decide +kernel
theorem dX12_execute_137 : decode cX12_execute 137 = .ok (.aload_n 0, 1) := by decide +kernel
theorem dX12_execute_138 : decode cX12_execute 138 = .ok (.getfield 214, 3) := by decide +kernel
theorem dX12_execute_141 : decode cX12_execute 141 = .ok (.iload 5, 2) := by decide +kernel
theorem dX12_execute_143 : decode cX12_execute 143 = .ok (.iaload, 1) := by decide +kernel
theorem dX12_execute_144 : decode cX12_execute 144 = .ok (.iastore, 1) := by decide +kernel
theorem dX12_execute_145 : decode cX12_execute 145 = .ok (.aload_n 0, 1) := by decide +kernel
theorem dX12_execute_146 : decode cX12_execute 146 = .ok (.getfield 16, 3) := by decide +kernel
theorem dX12_execute_149 : decode cX12_execute 149 = .ok (.iload 4, 2) := by decide +kernel
theorem dX12_execute_151 : decode cX12_execute 151 = .ok (.iaload, 1) := by decide +kernel
theorem dX12_execute_152 : decode cX12_execute 152 = .ok (.iconst 1, 1) := by decide +kernel
theorem dX12_execute_153 : decode cX12_execute 153 = .ok (.if_icmp .ne 17, 3) := by decide +kernel
theorem dX12_execute_156 : decode cX12_execute 156 = .ok (.aload_n 0, 1) := by decide +kernel
theorem dX12_execute_157 : decode cX12_execute 157 = .ok (.getfield 214, 3) := by decide +kernel
theorem dX12_execute_160 : decode cX12_execute 160 = .ok (.iload 5, 2) := by decide +kernel
theorem dX12_execute_162 : decode cX12_execute 162 = .ok (.aload_n 0, 1) := by decide +kernel
theorem dX12_execute_163 : decode cX12_execute 163 = .ok (.getfield 22, 3) := by decide +kernel
theorem dX12_execute_166 : decode cX12_execute 166 = .ok (.iload 4, 2) := by decide +kernel
theorem dX12_execute_168 : decode cX12_execute 168 = .ok (.iaload, 1) := by decide +kernel
theorem dX12_execute_169 : decode cX12_execute 169 = .ok (.iastore, 1) := by decide +kernel
theorem dX12_execute_170 : decode cX12_execute 170 = .ok (.aload_n 0, 1) := by decide +kernel
theorem dX12_execute_171 : decode cX12_execute 171 = .ok (.getfield 16, 3) := by decide +kernel
theorem dX12_execute_174 : decode cX12_execute 174 = .ok (.iload 4, 2) := by decide +kernel
theorem dX12_execute_176 : decode cX12_execute 176 = .ok (.iaload, 1) := by decide +kernel
theorem dX12_execute_177 : decode cX12_execute 177 = .ok (.iconst 2, 1) := by decide +kernel
theorem dX12_execute_178 : decode cX12_execute 178 = .ok (.if_icmp .ne 20, 3) := by decide +kernel
theorem dX12_execute_181 : decode cX12_execute 181 = .ok (.aload_n 0, 1) := by decide +kernel
theorem dX12_execute_182 : decode cX12_execute 182 = .ok (.getfield 214, 3) := by decide +kernel
theorem dX12_execute_185 : decode cX12_execute 185 = .ok (.iload 5, 2) := by decide +kernel
theorem dX12_execute_187 : decode cX12_execute 187 = .ok (.dup2, 1) := by decide +kernel
theorem dX12_execute_188 : decode cX12_execute 188 = .ok (.iaload, 1) := by decide +kernel
theorem dX12_execute_189 : decode cX12_execute 189 = .ok (.aload_n 0, 1) := by decide +kernel
theorem dX12_execute_190 : decode cX12_execute 190 = .ok (.getfield 22, 3) := by decide +kernel
theorem dX12_execute_193 : decode cX12_execute 193 = .ok (.iload 4, 2) := by decide +kernel
theorem dX12_execute_195 : decode cX12_execute 195 = .ok (.iaload, 1) := by decide +kernel
theorem dX12_execute_196 : decode cX12_execute 196 = .ok (.iadd, 1) := by decide +kernel
theorem dX12_execute_197 : decode cX12_execute 197 = .ok (.iastore, 1) := by decide +kernel
theorem dX12_execute_198 : decode cX12_execute 198 = .ok (.iinc 3 1, 3) := by decide +kernel
theorem dX12_execute_201 : decode cX12_execute 201 = .ok (.goto (-151), 3) := by decide +kernel
theorem dX12_execute_204 : decode cX12_execute 204 = .ok (.return_, 1) := by decide +kernel
theorem dX12_leads_0 : decode cX12_leads 0 = .ok (.aload_n 0, 1) := by decide +kernel
theorem dX12_leads_1 : decode cX12_leads 1 = .ok (.getfield 88, 3) := by decide +kernel
theorem dX12_leads_4 : decode cX12_leads 4 = .ok (.iload_n 1, 1) := by decide +kernel
theorem dX12_leads_5 : decode cX12_leads 5 = .ok (.iaload, 1) := by decide +kernel
theorem dX12_leads_6 : decode cX12_leads 6 = .ok (.aload_n 0, 1) := by decide +kernel
theorem dX12_leads_7 : decode cX12_leads 7 = .ok (.getfield 223, 3) := by decide +kernel
theorem dX12_leads_10 : decode cX12_leads 10 = .ok (.irem, 1) := by decide +kernel
theorem dX12_leads_11 : decode cX12_leads 11 = .ok (.iload_n 1, 1) := by decide +kernel
theorem dX12_leads_12 : decode cX12_leads 12 = .ok (.if_icmp .ne 7, 3) := by decide +kernel
theorem dX12_leads_15 : decode cX12_leads 15 = .ok (.iconst 1, 1) := by decide +kernel
theorem dX12_leads_16 : decode cX12_leads 16 = .ok (.goto 4, 3) := by decide +kernel
theorem dX12_leads_19 : decode cX12_leads 19 = .ok (.iconst 0, 1) := by decide +kernel
theorem dX12_leads_20 : decode cX12_leads 20 = .ok (.ireturn, 1) := by decide +kernel
theorem dX12_leader_0 : decode cX12_leader 0 = .ok (.aload_n 0, 1) := by decide +kernel
theorem dX12_leader_1 : decode cX12_leader 1 = .ok (.getfield 88, 3) := by decide +kernel
theorem dX12_leader_4 : decode cX12_leader 4 = .ok (.iload_n 1, 1) := by decide +kernel
theorem dX12_leader_5 : decode cX12_leader 5 = .ok (.iaload, 1) := by decide +kernel
theorem dX12_leader_6 : decode cX12_leader 6 = .ok (.aload_n 0, 1) := by decide +kernel
theorem dX12_leader_7 : decode cX12_leader 7 = .ok (.getfield 223, 3) := by decide +kernel
theorem dX12_leader_10 : decode cX12_leader 10 = .ok (.irem, 1) := by decide +kernel
theorem dX12_leader_11 : decode cX12_leader 11 = .ok (.ireturn, 1) := by decide +kernel
theorem dX12_executed_0 : decode cX12_executed 0 = .ok (.aload_n 0, 1) := by decide +kernel
theorem dX12_executed_1 : decode cX12_executed 1 = .ok (.iload_n 1, 1) := by decide +kernel
theorem dX12_executed_2 : decode cX12_executed 2 = .ok (.invokevirtual 248, 3) := by decide +kernel
theorem dX12_executed_5 : decode cX12_executed 5 = .ok (.ifCond .eq 20, 3) := by decide +kernel
theorem dX12_executed_8 : decode cX12_executed 8 = .ok (.aload_n 0, 1) := by decide +kernel
theorem dX12_executed_9 : decode cX12_executed 9 = .ok (.getfield 94, 3) := by decide +kernel
theorem dX12_executed_12 : decode cX12_executed 12 = .ok (.iload_n 1, 1) := by decide +kernel
theorem dX12_executed_13 : decode cX12_executed 13 = .ok (.iaload, 1) := by decide +kernel
theorem dX12_executed_14 : decode cX12_executed 14 = .ok (.iconst 2, 1) := by decide +kernel
theorem dX12_executed_15 : decode cX12_executed 15 = .ok (.if_icmp .eq 10, 3) := by decide +kernel
theorem dX12_executed_18 : decode cX12_executed 18 = .ok (.aload_n 0, 1) := by decide +kernel
theorem dX12_executed_19 : decode cX12_executed 19 = .ok (.getfield 103, 3) := by decide +kernel
theorem dX12_executed_22 : decode cX12_executed 22 = .ok (.iload_n 1, 1) := by decide +kernel
theorem dX12_executed_23 : decode cX12_executed 23 = .ok (.iaload, 1) := by decide +kernel
theorem dX12_executed_24 : decode cX12_executed 24 = .ok (.ireturn, 1) := by decide +kernel
theorem dX12_executed_25 : decode cX12_executed 25 = .ok (.aload_n 0, 1) := by decide +kernel
theorem dX12_executed_26 : decode cX12_executed 26 = .ok (.getfield 109, 3) := by decide +kernel
theorem dX12_executed_29 : decode cX12_executed 29 = .ok (.iload_n 1, 1) := by decide +kernel
theorem dX12_executed_30 : decode cX12_executed 30 = .ok (.iaload, 1) := by decide +kernel
theorem dX12_executed_31 : decode cX12_executed 31 = .ok (.aload_n 0, 1) := by decide +kernel
theorem dX12_executed_32 : decode cX12_executed 32 = .ok (.getfield 103, 3) := by decide +kernel
theorem dX12_executed_35 : decode cX12_executed 35 = .ok (.iload_n 1, 1) := by decide +kernel
theorem dX12_executed_36 : decode cX12_executed 36 = .ok (.iaload, 1) := by decide +kernel
theorem dX12_executed_37 : decode cX12_executed 37 = .ok (.if_icmp .ge 12, 3) := by decide +kernel
theorem dX12_executed_40 : decode cX12_executed 40 = .ok (.aload_n 0, 1) := by decide +kernel
theorem dX12_executed_41 : decode cX12_executed 41 = .ok (.getfield 109, 3) := by decide +kernel
theorem dX12_executed_44 : decode cX12_executed 44 = .ok (.iload_n 1, 1) := by decide +kernel
theorem dX12_executed_45 : decode cX12_executed 45 = .ok (.iaload, 1) := by decide +kernel
theorem dX12_executed_46 : decode cX12_executed 46 = .ok (.goto 9, 3) := by decide +kernel
theorem dX12_executed_49 : decode cX12_executed 49 = .ok (.aload_n 0, 1) := by decide +kernel
theorem dX12_executed_50 : decode cX12_executed 50 = .ok (.getfield 103, 3) := by decide +kernel
theorem dX12_executed_53 : decode cX12_executed 53 = .ok (.iload_n 1, 1) := by decide +kernel
theorem dX12_executed_54 : decode cX12_executed 54 = .ok (.iaload, 1) := by decide +kernel
theorem dX12_executed_55 : decode cX12_executed 55 = .ok (.ireturn, 1) := by decide +kernel
theorem dX12_held_0 : decode cX12_held 0 = .ok (.iconst 0, 1) := by decide +kernel
theorem dX12_held_1 : decode cX12_held 1 = .ok (.istore_n 3, 1) := by decide +kernel
theorem dX12_held_2 : decode cX12_held 2 = .ok (.iload_n 3, 1) := by decide +kernel
theorem dX12_held_3 : decode cX12_held 3 = .ok (.aload_n 0, 1) := by decide +kernel
theorem dX12_held_4 : decode cX12_held 4 = .ok (.getfield 118, 3) := by decide +kernel
theorem dX12_held_7 : decode cX12_held 7 = .ok (.iload_n 1, 1) := by decide +kernel
theorem dX12_held_8 : decode cX12_held 8 = .ok (.iaload, 1) := by decide +kernel
theorem dX12_held_9 : decode cX12_held 9 = .ok (.if_icmp .ge 26, 3) := by decide +kernel
theorem dX12_held_12 : decode cX12_held 12 = .ok (.aload_n 0, 1) := by decide +kernel
theorem dX12_held_13 : decode cX12_held 13 = .ok (.getfield 121, 3) := by decide +kernel
theorem dX12_held_16 : decode cX12_held 16 = .ok (.bipush 12, 2) := by decide +kernel
theorem dX12_held_18 : decode cX12_held 18 = .ok (.iload_n 1, 1) := by decide +kernel
theorem dX12_held_19 : decode cX12_held 19 = .ok (.imul, 1) := by decide +kernel
theorem dX12_held_20 : decode cX12_held 20 = .ok (.iload_n 3, 1) := by decide +kernel
theorem dX12_held_21 : decode cX12_held 21 = .ok (.iadd, 1) := by decide +kernel
theorem dX12_held_22 : decode cX12_held 22 = .ok (.iaload, 1) := by decide +kernel
theorem dX12_held_23 : decode cX12_held 23 = .ok (.iload_n 2, 1) := by decide +kernel
theorem dX12_held_24 : decode cX12_held 24 = .ok (.if_icmp .ne 5, 3) := by decide +kernel
theorem dX12_held_27 : decode cX12_held 27 = .ok (.iload_n 3, 1) := by decide +kernel
theorem dX12_held_28 : decode cX12_held 28 = .ok (.ireturn, 1) := by decide +kernel
theorem dX12_held_29 : decode cX12_held 29 = .ok (.iinc 3 1, 3) := by decide +kernel
theorem dX12_held_32 : decode cX12_held 32 = .ok (.goto (-30), 3) := by decide +kernel
theorem dX12_held_35 : decode cX12_held 35 = .ok (.iconst (-1), 1) := by decide +kernel
theorem dX12_held_36 : decode cX12_held 36 = .ok (.ireturn, 1) := by decide +kernel
theorem dX12_hold_0 : decode cX12_hold 0 = .ok (.aload_n 0, 1) := by decide +kernel
theorem dX12_hold_1 : decode cX12_hold 1 = .ok (.iload_n 1, 1) := by decide +kernel
theorem dX12_hold_2 : decode cX12_hold 2 = .ok (.iload_n 2, 1) := by decide +kernel
theorem dX12_hold_3 : decode cX12_hold 3 = .ok (.invokevirtual 252, 3) := by decide +kernel
theorem dX12_hold_6 : decode cX12_hold 6 = .ok (.istore 4, 2) := by decide +kernel
theorem dX12_hold_8 : decode cX12_hold 8 = .ok (.iload 4, 2) := by decide +kernel
theorem dX12_hold_10 : decode cX12_hold 10 = .ok (.iconst (-1), 1) := by decide +kernel
theorem dX12_hold_11 : decode cX12_hold 11 = .ok (.if_icmp .ne 21, 3) := by decide +kernel
theorem dX12_hold_14 : decode cX12_hold 14 = .ok (.aload_n 0, 1) := by decide +kernel
theorem dX12_hold_15 : decode cX12_hold 15 = .ok (.getfield 118, 3) := by decide +kernel
theorem dX12_hold_18 : decode cX12_hold 18 = .ok (.iload_n 1, 1) := by decide +kernel
theorem dX12_hold_19 : decode cX12_hold 19 = .ok (.iaload, 1) := by decide +kernel
theorem dX12_hold_20 : decode cX12_hold 20 = .ok (.istore 4, 2) := by decide +kernel
theorem dX12_hold_22 : decode cX12_hold 22 = .ok (.aload_n 0, 1) := by decide +kernel
theorem dX12_hold_23 : decode cX12_hold 23 = .ok (.getfield 118, 3) := by decide +kernel
theorem dX12_hold_26 : decode cX12_hold 26 = .ok (.iload_n 1, 1) := by decide +kernel
theorem dX12_hold_27 : decode cX12_hold 27 = .ok (.dup2, 1) := by decide +kernel
theorem dX12_hold_28 : decode cX12_hold 28 = .ok (.iaload, 1) := by decide +kernel
theorem dX12_hold_29 : decode cX12_hold 29 = .ok (.iconst 1, 1) := by decide +kernel
theorem dX12_hold_30 : decode cX12_hold 30 = .ok (.iadd, 1) := by decide +kernel
theorem dX12_hold_31 : decode cX12_hold 31 = .ok (.iastore, 1) := by decide +kernel
theorem dX12_hold_32 : decode cX12_hold 32 = .ok (.aload_n 0, 1) := by decide +kernel
theorem dX12_hold_33 : decode cX12_hold 33 = .ok (.getfield 121, 3) := by decide +kernel
theorem dX12_hold_36 : decode cX12_hold 36 = .ok (.bipush 12, 2) := by decide +kernel
theorem dX12_hold_38 : decode cX12_hold 38 = .ok (.iload_n 1, 1) := by decide +kernel
theorem dX12_hold_39 : decode cX12_hold 39 = .ok (.imul, 1) := by decide +kernel
theorem dX12_hold_40 : decode cX12_hold 40 = .ok (.iload 4, 2) := by decide +kernel
theorem dX12_hold_42 : decode cX12_hold 42 = .ok (.iadd, 1) := by decide +kernel
theorem dX12_hold_43 : decode cX12_hold 43 = .ok (.iload_n 2, 1) := by decide +kernel
theorem dX12_hold_44 : decode cX12_hold 44 = .ok (.iastore, 1) := by decide +kernel
theorem dX12_hold_45 : decode cX12_hold 45 = .ok (.aload_n 0, 1) := by decide +kernel
theorem dX12_hold_46 : decode cX12_hold 46 = .ok (.getfield 124, 3) := by decide +kernel
theorem dX12_hold_49 : decode cX12_hold 49 = .ok (.bipush 12, 2) := by decide +kernel
theorem dX12_hold_51 : decode cX12_hold 51 = .ok (.iload_n 1, 1) := by decide +kernel
theorem dX12_hold_52 : decode cX12_hold 52 = .ok (.imul, 1) := by decide +kernel
theorem dX12_hold_53 : decode cX12_hold 53 = .ok (.iload 4, 2) := by decide +kernel
theorem dX12_hold_55 : decode cX12_hold 55 = .ok (.iadd, 1) := by decide +kernel
theorem dX12_hold_56 : decode cX12_hold 56 = .ok (.iload_n 3, 1) := by decide +kernel
theorem dX12_hold_57 : decode cX12_hold 57 = .ok (.iastore, 1) := by decide +kernel
theorem dX12_hold_58 : decode cX12_hold 58 = .ok (.return_, 1) := by decide +kernel
theorem dX12_unhold_0 : decode cX12_unhold 0 = .ok (.aload_n 0, 1) := by decide +kernel
theorem dX12_unhold_1 : decode cX12_unhold 1 = .ok (.iload_n 1, 1) := by decide +kernel
theorem dX12_unhold_2 : decode cX12_unhold 2 = .ok (.iload_n 2, 1) := by decide +kernel
theorem dX12_unhold_3 : decode cX12_unhold 3 = .ok (.invokevirtual 252, 3) := by decide +kernel
theorem dX12_unhold_6 : decode cX12_unhold 6 = .ok (.istore_n 3, 1) := by decide +kernel
theorem dX12_unhold_7 : decode cX12_unhold 7 = .ok (.iload_n 3, 1) := by decide +kernel
theorem dX12_unhold_8 : decode cX12_unhold 8 = .ok (.iconst (-1), 1) := by decide +kernel
theorem dX12_unhold_9 : decode cX12_unhold 9 = .ok (.if_icmp .ne 4, 3) := by decide +kernel
theorem dX12_unhold_12 : decode cX12_unhold 12 = .ok (.return_, 1) := by decide +kernel
theorem dX12_unhold_13 : decode cX12_unhold 13 = .ok (.aload_n 0, 1) := by decide +kernel
theorem dX12_unhold_14 : decode cX12_unhold 14 = .ok (.getfield 118, 3) := by decide +kernel
theorem dX12_unhold_17 : decode cX12_unhold 17 = .ok (.iload_n 1, 1) := by decide +kernel
theorem dX12_unhold_18 : decode cX12_unhold 18 = .ok (.dup2, 1) := by decide +kernel
theorem dX12_unhold_19 : decode cX12_unhold 19 = .ok (.iaload, 1) := by decide +kernel
theorem dX12_unhold_20 : decode cX12_unhold 20 = .ok (.iconst 1, 1) := by decide +kernel
theorem dX12_unhold_21 : decode cX12_unhold 21 = .ok (.isub, 1) := by decide +kernel
theorem dX12_unhold_22 : decode cX12_unhold 22 = .ok (.iastore, 1) := by decide +kernel
theorem dX12_unhold_23 : decode cX12_unhold 23 = .ok (.aload_n 0, 1) := by decide +kernel
theorem dX12_unhold_24 : decode cX12_unhold 24 = .ok (.getfield 121, 3) := by decide +kernel
theorem dX12_unhold_27 : decode cX12_unhold 27 = .ok (.bipush 12, 2) := by decide +kernel
theorem dX12_unhold_29 : decode cX12_unhold 29 = .ok (.iload_n 1, 1) := by decide +kernel
theorem dX12_unhold_30 : decode cX12_unhold 30 = .ok (.imul, 1) := by decide +kernel
theorem dX12_unhold_31 : decode cX12_unhold 31 = .ok (.iload_n 3, 1) := by decide +kernel
theorem dX12_unhold_32 : decode cX12_unhold 32 = .ok (.iadd, 1) := by decide +kernel
theorem dX12_unhold_33 : decode cX12_unhold 33 = .ok (.aload_n 0, 1) := by decide +kernel
theorem dX12_unhold_34 : decode cX12_unhold 34 = .ok (.getfield 121, 3) := by decide +kernel
theorem dX12_unhold_37 : decode cX12_unhold 37 = .ok (.bipush 12, 2) := by decide +kernel
theorem dX12_unhold_39 : decode cX12_unhold 39 = .ok (.iload_n 1, 1) := by decide +kernel
theorem dX12_unhold_40 : decode cX12_unhold 40 = .ok (.imul, 1) := by decide +kernel
theorem dX12_unhold_41 : decode cX12_unhold 41 = .ok (.aload_n 0, 1) := by decide +kernel
theorem dX12_unhold_42 : decode cX12_unhold 42 = .ok (.getfield 118, 3) := by decide +kernel
theorem dX12_unhold_45 : decode cX12_unhold 45 = .ok (.iload_n 1, 1) := by decide +kernel
theorem dX12_unhold_46 : decode cX12_unhold 46 = .ok (.iaload, 1) := by decide +kernel
theorem dX12_unhold_47 : decode cX12_unhold 47 = .ok (.iadd, 1) := by decide +kernel
theorem dX12_unhold_48 : decode cX12_unhold 48 = .ok (.iaload, 1) := by decide +kernel
theorem dX12_unhold_49 : decode cX12_unhold 49 = .ok (.iastore, 1) := by decide +kernel
theorem dX12_unhold_50 : decode cX12_unhold 50 = .ok (.aload_n 0, 1) := by decide +kernel
theorem dX12_unhold_51 : decode cX12_unhold 51 = .ok (.getfield 124, 3) := by decide +kernel
theorem dX12_unhold_54 : decode cX12_unhold 54 = .ok (.bipush 12, 2) := by decide +kernel
theorem dX12_unhold_56 : decode cX12_unhold 56 = .ok (.iload_n 1, 1) := by decide +kernel
theorem dX12_unhold_57 : decode cX12_unhold 57 = .ok (.imul, 1) := by decide +kernel
theorem dX12_unhold_58 : decode cX12_unhold 58 = .ok (.iload_n 3, 1) := by decide +kernel
theorem dX12_unhold_59 : decode cX12_unhold 59 = .ok (.iadd, 1) := by decide +kernel
theorem dX12_unhold_60 : decode cX12_unhold 60 = .ok (.aload_n 0, 1) := by decide +kernel
theorem dX12_unhold_61 : decode cX12_unhold 61 = .ok (.getfield 124, 3) := by decide +kernel
theorem dX12_unhold_64 : decode cX12_unhold 64 = .ok (.bipush 12, 2) := by decide +kernel
theorem dX12_unhold_66 : decode cX12_unhold 66 = .ok (.iload_n 1, 1) := by decide +kernel
theorem dX12_unhold_67 : decode cX12_unhold 67 = .ok (.imul, 1) := by decide +kernel
theorem dX12_unhold_68 : decode cX12_unhold 68 = .ok (.aload_n 0, 1) := by decide +kernel
theorem dX12_unhold_69 : decode cX12_unhold 69 = .ok (.getfield 118, 3) := by decide +kernel
theorem dX12_unhold_72 : decode cX12_unhold 72 = .ok (.iload_n 1, 1) := by decide +kernel
theorem dX12_unhold_73 : decode cX12_unhold 73 = .ok (.iaload, 1) := by decide +kernel
theorem dX12_unhold_74 : decode cX12_unhold 74 = .ok (.iadd, 1) := by decide +kernel
theorem dX12_unhold_75 : decode cX12_unhold 75 = .ok (.iaload, 1) := by decide +kernel
theorem dX12_unhold_76 : decode cX12_unhold 76 = .ok (.iastore, 1) := by decide +kernel
theorem dX12_unhold_77 : decode cX12_unhold 77 = .ok (.return_, 1) := by decide +kernel
theorem dX12_forget_0 : decode cX12_forget 0 = .ok (.aload_n 0, 1) := by decide +kernel
theorem dX12_forget_1 : decode cX12_forget 1 = .ok (.getfield 118, 3) := by decide +kernel
theorem dX12_forget_4 : decode cX12_forget 4 = .ok (.iload_n 1, 1) := by decide +kernel
theorem dX12_forget_5 : decode cX12_forget 5 = .ok (.iconst 0, 1) := by decide +kernel
theorem dX12_forget_6 : decode cX12_forget 6 = .ok (.iastore, 1) := by decide +kernel
theorem dX12_forget_7 : decode cX12_forget 7 = .ok (.aload_n 0, 1) := by decide +kernel
theorem dX12_forget_8 : decode cX12_forget 8 = .ok (.getfield 127, 3) := by decide +kernel
theorem dX12_forget_11 : decode cX12_forget 11 = .ok (.iload_n 1, 1) := by decide +kernel
theorem dX12_forget_12 : decode cX12_forget 12 = .ok (.iconst 0, 1) := by decide +kernel
theorem dX12_forget_13 : decode cX12_forget 13 = .ok (.iastore, 1) := by decide +kernel
theorem dX12_forget_14 : decode cX12_forget 14 = .ok (.aload_n 0, 1) := by decide +kernel
theorem dX12_forget_15 : decode cX12_forget 15 = .ok (.getfield 130, 3) := by decide +kernel
theorem dX12_forget_18 : decode cX12_forget 18 = .ok (.iload_n 1, 1) := by decide +kernel
theorem dX12_forget_19 : decode cX12_forget 19 = .ok (.iconst 0, 1) := by decide +kernel
theorem dX12_forget_20 : decode cX12_forget 20 = .ok (.iastore, 1) := by decide +kernel
theorem dX12_forget_21 : decode cX12_forget 21 = .ok (.aload_n 0, 1) := by decide +kernel
theorem dX12_forget_22 : decode cX12_forget 22 = .ok (.getfield 136, 3) := by decide +kernel
theorem dX12_forget_25 : decode cX12_forget 25 = .ok (.iload_n 1, 1) := by decide +kernel
theorem dX12_forget_26 : decode cX12_forget 26 = .ok (.iconst 0, 1) := by decide +kernel
theorem dX12_forget_27 : decode cX12_forget 27 = .ok (.iastore, 1) := by decide +kernel
theorem dX12_forget_28 : decode cX12_forget 28 = .ok (.return_, 1) := by decide +kernel
theorem dX12_append_0 : decode cX12_append 0 = .ok (.aload_n 0, 1) := by decide +kernel
theorem dX12_append_1 : decode cX12_append 1 = .ok (.getfield 115, 3) := by decide +kernel
theorem dX12_append_4 : decode cX12_append 4 = .ok (.bipush 100, 2) := by decide +kernel
theorem dX12_append_6 : decode cX12_append 6 = .ok (.iload_n 1, 1) := by decide +kernel
theorem dX12_append_7 : decode cX12_append 7 = .ok (.imul, 1) := by decide +kernel
theorem dX12_append_8 : decode cX12_append 8 = .ok (.aload_n 0, 1) := by decide +kernel
theorem dX12_append_9 : decode cX12_append 9 = .ok (.getfield 103, 3) := by decide +kernel
theorem dX12_append_12 : decode cX12_append 12 = .ok (.iload_n 1, 1) := by decide +kernel
theorem dX12_append_13 : decode cX12_append 13 = .ok (.iaload, 1) := by decide +kernel
theorem dX12_append_14 : decode cX12_append 14 = .ok (.iadd, 1) := by decide +kernel
theorem dX12_append_15 : decode cX12_append 15 = .ok (.iload_n 2, 1) := by decide +kernel
theorem dX12_append_16 : decode cX12_append 16 = .ok (.iastore, 1) := by decide +kernel
theorem dX12_append_17 : decode cX12_append 17 = .ok (.aload_n 0, 1) := by decide +kernel
theorem dX12_append_18 : decode cX12_append 18 = .ok (.getfield 103, 3) := by decide +kernel
theorem dX12_append_21 : decode cX12_append 21 = .ok (.iload_n 1, 1) := by decide +kernel
theorem dX12_append_22 : decode cX12_append 22 = .ok (.dup2, 1) := by decide +kernel
theorem dX12_append_23 : decode cX12_append 23 = .ok (.iaload, 1) := by decide +kernel
theorem dX12_append_24 : decode cX12_append 24 = .ok (.iconst 1, 1) := by decide +kernel
theorem dX12_append_25 : decode cX12_append 25 = .ok (.iadd, 1) := by decide +kernel
theorem dX12_append_26 : decode cX12_append 26 = .ok (.iastore, 1) := by decide +kernel
theorem dX12_append_27 : decode cX12_append 27 = .ok (.return_, 1) := by decide +kernel
theorem dX12_answer_0 : decode cX12_answer 0 = .ok (.aload_n 0, 1) := by decide +kernel
theorem dX12_answer_1 : decode cX12_answer 1 = .ok (.getfield 7, 3) := by decide +kernel
theorem dX12_answer_4 : decode cX12_answer 4 = .ok (.iload_n 2, 1) := by decide +kernel
theorem dX12_answer_5 : decode cX12_answer 5 = .ok (.iaload, 1) := by decide +kernel
theorem dX12_answer_6 : decode cX12_answer 6 = .ok (.istore_n 3, 1) := by decide +kernel
theorem dX12_answer_7 : decode cX12_answer 7 = .ok (.aload_n 0, 1) := by decide +kernel
theorem dX12_answer_8 : decode cX12_answer 8 = .ok (.iload_n 1, 1) := by decide +kernel
theorem dX12_answer_9 : decode cX12_answer 9 = .ok (.invokevirtual 248, 3) := by decide +kernel
theorem dX12_answer_12 : decode cX12_answer 12 = .ok (.ifCond .eq 30, 3) := by decide +kernel
theorem dX12_answer_15 : decode cX12_answer 15 = .ok (.aload_n 0, 1) := by decide +kernel
theorem dX12_answer_16 : decode cX12_answer 16 = .ok (.iload_n 1, 1) := by decide +kernel
theorem dX12_answer_17 : decode cX12_answer 17 = .ok (.aload_n 0, 1) := by decide +kernel
theorem dX12_answer_18 : decode cX12_answer 18 = .ok (.getfield 103, 3) := by decide +kernel
theorem dX12_answer_21 : decode cX12_answer 21 = .ok (.iload_n 1, 1) := by decide +kernel
theorem dX12_answer_22 : decode cX12_answer 22 = .ok (.iaload, 1) := by decide +kernel
theorem dX12_answer_23 : decode cX12_answer 23 = .ok (.invokevirtual 256, 3) := by decide +kernel
theorem dX12_answer_26 : decode cX12_answer 26 = .ok (.aload_n 0, 1) := by decide +kernel
theorem dX12_answer_27 : decode cX12_answer 27 = .ok (.getfield 217, 3) := by decide +kernel
theorem dX12_answer_30 : decode cX12_answer 30 = .ok (.iload_n 3, 1) := by decide +kernel
theorem dX12_answer_31 : decode cX12_answer 31 = .ok (.iaload, 1) := by decide +kernel
theorem dX12_answer_32 : decode cX12_answer 32 = .ok (.aload_n 0, 1) := by decide +kernel
theorem dX12_answer_33 : decode cX12_answer 33 = .ok (.getfield 13, 3) := by decide +kernel
theorem dX12_answer_36 : decode cX12_answer 36 = .ok (.iload_n 2, 1) := by decide +kernel
theorem dX12_answer_37 : decode cX12_answer 37 = .ok (.iaload, 1) := by decide +kernel
theorem dX12_answer_38 : decode cX12_answer 38 = .ok (.if_icmp .eq 4, 3) := by decide +kernel
theorem dX12_answer_41 : decode cX12_answer 41 = .ok (.return_, 1) := by decide +kernel
theorem dX12_answer_42 : decode cX12_answer 42 = .ok (.aload_n 0, 1) := by decide +kernel
theorem dX12_answer_43 : decode cX12_answer 43 = .ok (.bipush 11, 2) := by decide +kernel
theorem dX12_answer_45 : decode cX12_answer 45 = .ok (.iload_n 1, 1) := by decide +kernel
theorem dX12_answer_46 : decode cX12_answer 46 = .ok (.iload_n 3, 1) := by decide +kernel
theorem dX12_answer_47 : decode cX12_answer 47 = .ok (.aload_n 0, 1) := by decide +kernel
theorem dX12_answer_48 : decode cX12_answer 48 = .ok (.getfield 88, 3) := by decide +kernel
theorem dX12_answer_51 : decode cX12_answer 51 = .ok (.iload_n 1, 1) := by decide +kernel
theorem dX12_answer_52 : decode cX12_answer 52 = .ok (.iaload, 1) := by decide +kernel
theorem dX12_answer_53 : decode cX12_answer 53 = .ok (.aload_n 0, 1) := by decide +kernel
theorem dX12_answer_54 : decode cX12_answer 54 = .ok (.getfield 91, 3) := by decide +kernel
theorem dX12_answer_57 : decode cX12_answer 57 = .ok (.iload_n 1, 1) := by decide +kernel
theorem dX12_answer_58 : decode cX12_answer 58 = .ok (.iaload, 1) := by decide +kernel
theorem dX12_answer_59 : decode cX12_answer 59 = .ok (.aload_n 0, 1) := by decide +kernel
theorem dX12_answer_60 : decode cX12_answer 60 = .ok (.getfield 103, 3) := by decide +kernel
theorem dX12_answer_63 : decode cX12_answer 63 = .ok (.iload_n 1, 1) := by decide +kernel
theorem dX12_answer_64 : decode cX12_answer 64 = .ok (.iaload, 1) := by decide +kernel
theorem dX12_answer_65 : decode cX12_answer 65 = .ok (.iload_n 2, 1) := by decide +kernel
theorem dX12_answer_66 : decode cX12_answer 66 = .ok (.invokevirtual 241, 3) := by decide +kernel
theorem dX12_answer_69 : decode cX12_answer 69 = .ok (.istore 4, 2) := by decide +kernel
theorem dX12_answer_71 : decode cX12_answer 71 = .ok (.iload 4, 2) := by decide +kernel
theorem dX12_answer_73 : decode cX12_answer 73 = .ok (.iconst (-1), 1) := by decide +kernel
theorem dX12_answer_74 : decode cX12_answer 74 = .ok (.if_icmp .eq 11, 3) := by decide +kernel
theorem dX12_answer_77 : decode cX12_answer 77 = .ok (.aload_n 0, 1) := by decide +kernel
theorem dX12_answer_78 : decode cX12_answer 78 = .ok (.iload_n 1, 1) := by decide +kernel
theorem dX12_answer_79 : decode cX12_answer 79 = .ok (.invokevirtual 248, 3) := by decide +kernel
theorem dX12_answer_82 : decode cX12_answer 82 = .ok (.ifCond .ne 4, 3) := by decide +kernel
theorem dX12_answer_85 : decode cX12_answer 85 = .ok (.return_, 1) := by decide +kernel
theorem dX12_answer_86 : decode cX12_answer 86 = .ok (.aload_n 0, 1) := by decide +kernel
theorem dX12_answer_87 : decode cX12_answer 87 = .ok (.getfield 78, 3) := by decide +kernel
theorem dX12_answer_90 : decode cX12_answer 90 = .ok (.iload 4, 2) := by decide +kernel
theorem dX12_answer_92 : decode cX12_answer 92 = .ok (.iconst 1, 1) := by decide +kernel
theorem dX12_answer_93 : decode cX12_answer 93 = .ok (.bastore, 1) := by decide +kernel
theorem dX12_answer_94 : decode cX12_answer 94 = .ok (.aload_n 0, 1) := by decide +kernel
theorem dX12_answer_95 : decode cX12_answer 95 = .ok (.getfield 63, 3) := by decide +kernel
theorem dX12_answer_98 : decode cX12_answer 98 = .ok (.iload 4, 2) := by decide +kernel
theorem dX12_answer_100 : decode cX12_answer 100 = .ok (.aload_n 0, 1) := by decide +kernel
theorem dX12_answer_101 : decode cX12_answer 101 = .ok (.getfield 220, 3) := by decide +kernel
theorem dX12_answer_104 : decode cX12_answer 104 = .ok (.iload_n 3, 1) := by decide +kernel
theorem dX12_answer_105 : decode cX12_answer 105 = .ok (.iaload, 1) := by decide +kernel
theorem dX12_answer_106 : decode cX12_answer 106 = .ok (.iastore, 1) := by decide +kernel
theorem dX12_answer_107 : decode cX12_answer 107 = .ok (.return_, 1) := by decide +kernel
theorem dX12_take_0 : decode cX12_take 0 = .ok (.aload_n 0, 1) := by decide +kernel
theorem dX12_take_1 : decode cX12_take 1 = .ok (.getfield 103, 3) := by decide +kernel
theorem dX12_take_4 : decode cX12_take 4 = .ok (.iload_n 1, 1) := by decide +kernel
theorem dX12_take_5 : decode cX12_take 5 = .ok (.iaload, 1) := by decide +kernel
theorem dX12_take_6 : decode cX12_take 6 = .ok (.bipush 100, 2) := by decide +kernel
theorem dX12_take_8 : decode cX12_take 8 = .ok (.if_icmp .ge 81, 3) := by decide +kernel
theorem dX12_take_11 : decode cX12_take 11 = .ok (.aload_n 0, 1) := by decide +kernel
theorem dX12_take_12 : decode cX12_take 12 = .ok (.iload_n 1, 1) := by decide +kernel
theorem dX12_take_13 : decode cX12_take 13 = .ok (.aload_n 0, 1) := by decide +kernel
theorem dX12_take_14 : decode cX12_take 14 = .ok (.getfield 103, 3) := by decide +kernel
theorem dX12_take_17 : decode cX12_take 17 = .ok (.iload_n 1, 1) := by decide +kernel
theorem dX12_take_18 : decode cX12_take 18 = .ok (.iaload, 1) := by decide +kernel
theorem dX12_take_19 : decode cX12_take 19 = .ok (.iconst 1, 1) := by decide +kernel
theorem dX12_take_20 : decode cX12_take 20 = .ok (.iadd, 1) := by decide +kernel
theorem dX12_take_21 : decode cX12_take 21 = .ok (.aload_n 0, 1) := by decide +kernel
theorem dX12_take_22 : decode cX12_take 22 = .ok (.getfield 106, 3) := by decide +kernel
theorem dX12_take_25 : decode cX12_take 25 = .ok (.iload_n 1, 1) := by decide +kernel
theorem dX12_take_26 : decode cX12_take 26 = .ok (.iaload, 1) := by decide +kernel
theorem dX12_take_27 : decode cX12_take 27 = .ok (.isub, 1) := by decide +kernel
theorem dX12_take_28 : decode cX12_take 28 = .ok (.invokevirtual 252, 3) := by decide +kernel
theorem dX12_take_31 : decode cX12_take 31 = .ok (.iconst (-1), 1) := by decide +kernel
theorem dX12_take_32 : decode cX12_take 32 = .ok (.if_icmp .eq 57, 3) := by decide +kernel
theorem dX12_take_35 : decode cX12_take 35 = .ok (.aload_n 0, 1) := by decide +kernel
theorem dX12_take_36 : decode cX12_take 36 = .ok (.getfield 103, 3) := by decide +kernel
theorem dX12_take_39 : decode cX12_take 39 = .ok (.iload_n 1, 1) := by decide +kernel
theorem dX12_take_40 : decode cX12_take 40 = .ok (.iaload, 1) := by decide +kernel
theorem dX12_take_41 : decode cX12_take 41 = .ok (.iconst 1, 1) := by decide +kernel
theorem dX12_take_42 : decode cX12_take 42 = .ok (.iadd, 1) := by decide +kernel
theorem dX12_take_43 : decode cX12_take 43 = .ok (.aload_n 0, 1) := by decide +kernel
theorem dX12_take_44 : decode cX12_take 44 = .ok (.getfield 106, 3) := by decide +kernel
theorem dX12_take_47 : decode cX12_take 47 = .ok (.iload_n 1, 1) := by decide +kernel
theorem dX12_take_48 : decode cX12_take 48 = .ok (.iaload, 1) := by decide +kernel
theorem dX12_take_49 : decode cX12_take 49 = .ok (.isub, 1) := by decide +kernel
theorem dX12_take_50 : decode cX12_take 50 = .ok (.istore_n 2, 1) := by decide +kernel
theorem dX12_take_51 : decode cX12_take 51 = .ok (.aload_n 0, 1) := by decide +kernel
theorem dX12_take_52 : decode cX12_take 52 = .ok (.getfield 124, 3) := by decide +kernel
theorem dX12_take_55 : decode cX12_take 55 = .ok (.bipush 12, 2) := by decide +kernel
theorem dX12_take_57 : decode cX12_take 57 = .ok (.iload_n 1, 1) := by decide +kernel
theorem dX12_take_58 : decode cX12_take 58 = .ok (.imul, 1) := by decide +kernel
theorem dX12_take_59 : decode cX12_take 59 = .ok (.aload_n 0, 1) := by decide +kernel
theorem dX12_take_60 : decode cX12_take 60 = .ok (.iload_n 1, 1) := by decide +kernel
theorem dX12_take_61 : decode cX12_take 61 = .ok (.iload_n 2, 1) := by decide +kernel
theorem dX12_take_62 : decode cX12_take 62 = .ok (.invokevirtual 252, 3) := by decide +kernel
theorem dX12_take_65 : decode cX12_take 65 = .ok (.iadd, 1) := by decide +kernel
theorem dX12_take_66 : decode cX12_take 66 = .ok (.iaload, 1) := by decide +kernel
theorem dX12_take_67 : decode cX12_take 67 = .ok (.istore_n 3, 1) := by decide +kernel
theorem dX12_take_68 : decode cX12_take 68 = .ok (.aload_n 0, 1) := by decide +kernel
theorem dX12_take_69 : decode cX12_take 69 = .ok (.iload_n 1, 1) := by decide +kernel
theorem dX12_take_70 : decode cX12_take 70 = .ok (.iload_n 2, 1) := by decide +kernel
theorem dX12_take_71 : decode cX12_take 71 = .ok (.invokevirtual 260, 3) := by decide +kernel
theorem dX12_take_74 : decode cX12_take 74 = .ok (.aload_n 0, 1) := by decide +kernel
theorem dX12_take_75 : decode cX12_take 75 = .ok (.iload_n 1, 1) := by decide +kernel
theorem dX12_take_76 : decode cX12_take 76 = .ok (.iload_n 3, 1) := by decide +kernel
theorem dX12_take_77 : decode cX12_take 77 = .ok (.invokevirtual 263, 3) := by decide +kernel
theorem dX12_take_80 : decode cX12_take 80 = .ok (.aload_n 0, 1) := by decide +kernel
theorem dX12_take_81 : decode cX12_take 81 = .ok (.iload_n 1, 1) := by decide +kernel
theorem dX12_take_82 : decode cX12_take 82 = .ok (.iload_n 3, 1) := by decide +kernel
theorem dX12_take_83 : decode cX12_take 83 = .ok (.invokevirtual 266, 3) := by decide +kernel
theorem dX12_take_86 : decode cX12_take 86 = .ok (.goto (-86), 3) := by decide +kernel
theorem dX12_take_89 : decode cX12_take 89 = .ok (.aload_n 0, 1) := by decide +kernel
theorem dX12_take_90 : decode cX12_take 90 = .ok (.getfield 118, 3) := by decide +kernel
theorem dX12_take_93 : decode cX12_take 93 = .ok (.iload_n 1, 1) := by decide +kernel
theorem dX12_take_94 : decode cX12_take 94 = .ok (.iaload, 1) := by decide +kernel
theorem dX12_take_95 : decode cX12_take 95 = .ok (.ifCond .eq 14, 3) := by decide +kernel
theorem dX12_take_98 : decode cX12_take 98 = .ok (.aload_n 0, 1) := by decide +kernel
theorem dX12_take_99 : decode cX12_take 99 = .ok (.getfield 103, 3) := by decide +kernel
theorem dX12_take_102 : decode cX12_take 102 = .ok (.iload_n 1, 1) := by decide +kernel
theorem dX12_take_103 : decode cX12_take 103 = .ok (.iaload, 1) := by decide +kernel
theorem dX12_take_104 : decode cX12_take 104 = .ok (.bipush 100, 2) := by decide +kernel
theorem dX12_take_106 : decode cX12_take 106 = .ok (.if_icmp .ne 4, 3) := by decide +kernel
theorem dX12_take_109 : decode cX12_take 109 = .ok (.return_, 1) := by decide +kernel
theorem dX12_take_110 : decode cX12_take 110 = .ok (.aload_n 0, 1) := by decide +kernel
theorem dX12_take_111 : decode cX12_take 111 = .ok (.iload_n 1, 1) := by decide +kernel
theorem dX12_take_112 : decode cX12_take 112 = .ok (.invokevirtual 248, 3) := by decide +kernel
theorem dX12_take_115 : decode cX12_take 115 = .ok (.ifCond .ne 37, 3) := by decide +kernel
theorem dX12_take_118 : decode cX12_take 118 = .ok (.aload_n 0, 1) := by decide +kernel
theorem dX12_take_119 : decode cX12_take 119 = .ok (.iconst 1, 1) := by decide +kernel
theorem dX12_take_120 : decode cX12_take 120 = .ok (.iload_n 1, 1) := by decide +kernel
theorem dX12_take_121 : decode cX12_take 121 = .ok (.aload_n 0, 1) := by decide +kernel
theorem dX12_take_122 : decode cX12_take 122 = .ok (.iload_n 1, 1) := by decide +kernel
theorem dX12_take_123 : decode cX12_take 123 = .ok (.invokevirtual 269, 3) := by decide +kernel
theorem dX12_take_126 : decode cX12_take 126 = .ok (.aload_n 0, 1) := by decide +kernel
theorem dX12_take_127 : decode cX12_take 127 = .ok (.getfield 88, 3) := by decide +kernel
theorem dX12_take_130 : decode cX12_take 130 = .ok (.iload_n 1, 1) := by decide +kernel
theorem dX12_take_131 : decode cX12_take 131 = .ok (.iaload, 1) := by decide +kernel
theorem dX12_take_132 : decode cX12_take 132 = .ok (.aload_n 0, 1) := by decide +kernel
theorem dX12_take_133 : decode cX12_take 133 = .ok (.getfield 91, 3) := by decide +kernel
theorem dX12_take_136 : decode cX12_take 136 = .ok (.iload_n 1, 1) := by decide +kernel
theorem dX12_take_137 : decode cX12_take 137 = .ok (.iaload, 1) := by decide +kernel
theorem dX12_take_138 : decode cX12_take 138 = .ok (.aload_n 0, 1) := by decide +kernel
theorem dX12_take_139 : decode cX12_take 139 = .ok (.getfield 103, 3) := by decide +kernel
theorem dX12_take_142 : decode cX12_take 142 = .ok (.iload_n 1, 1) := by decide +kernel
theorem dX12_take_143 : decode cX12_take 143 = .ok (.iaload, 1) := by decide +kernel
theorem dX12_take_144 : decode cX12_take 144 = .ok (.iconst 1, 1) := by decide +kernel
theorem dX12_take_145 : decode cX12_take 145 = .ok (.iadd, 1) := by decide +kernel
theorem dX12_take_146 : decode cX12_take 146 = .ok (.iconst 0, 1) := by decide +kernel
theorem dX12_take_147 : decode cX12_take 147 = .ok (.invokevirtual 241, 3) := by decide +kernel
theorem dX12_take_150 : decode cX12_take 150 = .ok (.pop, 1) := by decide +kernel
theorem dX12_take_151 : decode cX12_take 151 = .ok (.return_, 1) := by decide +kernel
theorem dX12_take_152 : decode cX12_take 152 = .ok (.aload_n 0, 1) := by decide +kernel
theorem dX12_take_153 : decode cX12_take 153 = .ok (.iload_n 1, 1) := by decide +kernel
theorem dX12_take_154 : decode cX12_take 154 = .ok (.iconst 0, 1) := by decide +kernel
theorem dX12_take_155 : decode cX12_take 155 = .ok (.invokevirtual 263, 3) := by decide +kernel
theorem dX12_take_158 : decode cX12_take 158 = .ok (.aload_n 0, 1) := by decide +kernel
theorem dX12_take_159 : decode cX12_take 159 = .ok (.getfield 94, 3) := by decide +kernel
theorem dX12_take_162 : decode cX12_take 162 = .ok (.iload_n 1, 1) := by decide +kernel
theorem dX12_take_163 : decode cX12_take 163 = .ok (.iconst 1, 1) := by decide +kernel
theorem dX12_take_164 : decode cX12_take 164 = .ok (.iastore, 1) := by decide +kernel
theorem dX12_take_165 : decode cX12_take 165 = .ok (.aload_n 0, 1) := by decide +kernel
theorem dX12_take_166 : decode cX12_take 166 = .ok (.getfield 127, 3) := by decide +kernel
theorem dX12_take_169 : decode cX12_take 169 = .ok (.iload_n 1, 1) := by decide +kernel
theorem dX12_take_170 : decode cX12_take 170 = .ok (.iconst 0, 1) := by decide +kernel
theorem dX12_take_171 : decode cX12_take 171 = .ok (.iastore, 1) := by decide +kernel
theorem dX12_take_172 : decode cX12_take 172 = .ok (.aload_n 0, 1) := by decide +kernel
theorem dX12_take_173 : decode cX12_take 173 = .ok (.iconst 3, 1) := by decide +kernel
theorem dX12_take_174 : decode cX12_take 174 = .ok (.iload_n 1, 1) := by decide +kernel
theorem dX12_take_175 : decode cX12_take 175 = .ok (.aload_n 0, 1) := by decide +kernel
theorem dX12_take_176 : decode cX12_take 176 = .ok (.getfield 103, 3) := by decide +kernel
theorem dX12_take_179 : decode cX12_take 179 = .ok (.iload_n 1, 1) := by decide +kernel
theorem dX12_take_180 : decode cX12_take 180 = .ok (.iaload, 1) := by decide +kernel
theorem dX12_take_181 : decode cX12_take 181 = .ok (.invokevirtual 273, 3) := by decide +kernel
theorem dX12_take_184 : decode cX12_take 184 = .ok (.return_, 1) := by decide +kernel
theorem dX12_tellTurned_0 : decode cX12_tellTurned 0 = .ok (.aload_n 0, 1) := by decide +kernel
theorem dX12_tellTurned_1 : decode cX12_tellTurned 1 = .ok (.aload_n 0, 1) := by decide +kernel
theorem dX12_tellTurned_2 : decode cX12_tellTurned 2 = .ok (.bipush 9, 2) := by decide +kernel
theorem dX12_tellTurned_4 : decode cX12_tellTurned 4 = .ok (.iload_n 1, 1) := by decide +kernel
theorem dX12_tellTurned_5 : decode cX12_tellTurned 5 = .ok (.aload_n 0, 1) := by decide +kernel
theorem dX12_tellTurned_6 : decode cX12_tellTurned 6 = .ok (.iload_n 1, 1) := by decide +kernel
theorem dX12_tellTurned_7 : decode cX12_tellTurned 7 = .ok (.invokevirtual 269, 3) := by decide +kernel
theorem dX12_tellTurned_10 : decode cX12_tellTurned 10 = .ok (.aload_n 0, 1) := by decide +kernel
theorem dX12_tellTurned_11 : decode cX12_tellTurned 11 = .ok (.getfield 88, 3) := by decide +kernel
theorem dX12_tellTurned_14 : decode cX12_tellTurned 14 = .ok (.iload_n 1, 1) := by decide +kernel
theorem dX12_tellTurned_15 : decode cX12_tellTurned 15 = .ok (.iaload, 1) := by decide +kernel
theorem dX12_tellTurned_16 : decode cX12_tellTurned 16 = .ok (.aload_n 0, 1) := by decide +kernel
theorem dX12_tellTurned_17 : decode cX12_tellTurned 17 = .ok (.getfield 91, 3) := by decide +kernel
theorem dX12_tellTurned_20 : decode cX12_tellTurned 20 = .ok (.iload_n 1, 1) := by decide +kernel
theorem dX12_tellTurned_21 : decode cX12_tellTurned 21 = .ok (.iaload, 1) := by decide +kernel
theorem dX12_tellTurned_22 : decode cX12_tellTurned 22 = .ok (.iconst 0, 1) := by decide +kernel
theorem dX12_tellTurned_23 : decode cX12_tellTurned 23 = .ok (.iconst 0, 1) := by decide +kernel
theorem dX12_tellTurned_24 : decode cX12_tellTurned 24 = .ok (.invokevirtual 241, 3) := by decide +kernel
theorem dX12_tellTurned_27 : decode cX12_tellTurned 27 = .ok (.iload_n 1, 1) := by decide +kernel
theorem dX12_tellTurned_28 : decode cX12_tellTurned 28 = .ok (.aload_n 0, 1) := by decide +kernel
theorem dX12_tellTurned_29 : decode cX12_tellTurned 29 = .ok (.getfield 103, 3) := by decide +kernel
theorem dX12_tellTurned_32 : decode cX12_tellTurned 32 = .ok (.iload_n 1, 1) := by decide +kernel
theorem dX12_tellTurned_33 : decode cX12_tellTurned 33 = .ok (.iaload, 1) := by decide +kernel
theorem dX12_tellTurned_34 : decode cX12_tellTurned 34 = .ok (.invokevirtual 277, 3) := by decide +kernel
theorem dX12_tellTurned_37 : decode cX12_tellTurned 37 = .ok (.return_, 1) := by decide +kernel
theorem dX12_turn_0 : decode cX12_turn 0 = .ok (.aload_n 0, 1) := by decide +kernel
theorem dX12_turn_1 : decode cX12_turn 1 = .ok (.getfield 88, 3) := by decide +kernel
theorem dX12_turn_4 : decode cX12_turn 4 = .ok (.iload_n 1, 1) := by decide +kernel
theorem dX12_turn_5 : decode cX12_turn 5 = .ok (.iload_n 2, 1) := by decide +kernel
theorem dX12_turn_6 : decode cX12_turn 6 = .ok (.iastore, 1) := by decide +kernel
theorem dX12_turn_7 : decode cX12_turn 7 = .ok (.aload_n 0, 1) := by decide +kernel
theorem dX12_turn_8 : decode cX12_turn 8 = .ok (.getfield 91, 3) := by decide +kernel
theorem dX12_turn_11 : decode cX12_turn 11 = .ok (.iload_n 1, 1) := by decide +kernel
theorem dX12_turn_12 : decode cX12_turn 12 = .ok (.iload_n 3, 1) := by decide +kernel
theorem dX12_turn_13 : decode cX12_turn 13 = .ok (.iastore, 1) := by decide +kernel
theorem dX12_turn_14 : decode cX12_turn 14 = .ok (.aload_n 0, 1) := by decide +kernel
theorem dX12_turn_15 : decode cX12_turn 15 = .ok (.getfield 94, 3) := by decide +kernel
theorem dX12_turn_18 : decode cX12_turn 18 = .ok (.iload_n 1, 1) := by decide +kernel
theorem dX12_turn_19 : decode cX12_turn 19 = .ok (.iconst 2, 1) := by decide +kernel
theorem dX12_turn_20 : decode cX12_turn 20 = .ok (.iastore, 1) := by decide +kernel
theorem dX12_turn_21 : decode cX12_turn 21 = .ok (.aload_n 0, 1) := by decide +kernel
theorem dX12_turn_22 : decode cX12_turn 22 = .ok (.iload_n 1, 1) := by decide +kernel
theorem dX12_turn_23 : decode cX12_turn 23 = .ok (.invokevirtual 280, 3) := by decide +kernel
theorem dX12_turn_26 : decode cX12_turn 26 = .ok (.aload_n 0, 1) := by decide +kernel
theorem dX12_turn_27 : decode cX12_turn 27 = .ok (.getfield 112, 3) := by decide +kernel
theorem dX12_turn_30 : decode cX12_turn 30 = .ok (.iload_n 1, 1) := by decide +kernel
theorem dX12_turn_31 : decode cX12_turn 31 = .ok (.iconst 0, 1) := by decide +kernel
theorem dX12_turn_32 : decode cX12_turn 32 = .ok (.iastore, 1) := by decide +kernel
theorem dX12_turn_33 : decode cX12_turn 33 = .ok (.aload_n 0, 1) := by decide +kernel
theorem dX12_turn_34 : decode cX12_turn 34 = .ok (.bipush 8, 2) := by decide +kernel
theorem dX12_turn_36 : decode cX12_turn 36 = .ok (.iload_n 1, 1) := by decide +kernel
theorem dX12_turn_37 : decode cX12_turn 37 = .ok (.iconst 0, 1) := by decide +kernel
theorem dX12_turn_38 : decode cX12_turn 38 = .ok (.invokevirtual 273, 3) := by decide +kernel
theorem dX12_turn_41 : decode cX12_turn 41 = .ok (.aload_n 0, 1) := by decide +kernel
theorem dX12_turn_42 : decode cX12_turn 42 = .ok (.iload_n 1, 1) := by decide +kernel
theorem dX12_turn_43 : decode cX12_turn 43 = .ok (.invokevirtual 248, 3) := by decide +kernel
theorem dX12_turn_46 : decode cX12_turn 46 = .ok (.ifCond .ne 8, 3) := by decide +kernel
theorem dX12_turn_49 : decode cX12_turn 49 = .ok (.aload_n 0, 1) := by decide +kernel
theorem dX12_turn_50 : decode cX12_turn 50 = .ok (.iload_n 1, 1) := by decide +kernel
theorem dX12_turn_51 : decode cX12_turn 51 = .ok (.invokevirtual 284, 3) := by decide +kernel
theorem dX12_turn_54 : decode cX12_turn 54 = .ok (.return_, 1) := by decide +kernel
theorem dX12_normalOf_0 : decode cX12_normalOf 0 = .ok (.iload_n 2, 1) := by decide +kernel
theorem dX12_normalOf_1 : decode cX12_normalOf 1 = .ok (.iload_n 1, 1) := by decide +kernel
theorem dX12_normalOf_2 : decode cX12_normalOf 2 = .ok (.if_icmp .ne 23, 3) := by decide +kernel
theorem dX12_normalOf_5 : decode cX12_normalOf 5 = .ok (.iload_n 3, 1) := by decide +kernel
theorem dX12_normalOf_6 : decode cX12_normalOf 6 = .ok (.ifCond .eq 12, 3) := by decide +kernel
theorem dX12_normalOf_9 : decode cX12_normalOf 9 = .ok (.aload_n 0, 1) := by decide +kernel
theorem dX12_normalOf_10 : decode cX12_normalOf 10 = .ok (.getfield 100, 3) := by decide +kernel
theorem dX12_normalOf_13 : decode cX12_normalOf 13 = .ok (.iload_n 1, 1) := by decide +kernel
theorem dX12_normalOf_14 : decode cX12_normalOf 14 = .ok (.iaload, 1) := by decide +kernel
theorem dX12_normalOf_15 : decode cX12_normalOf 15 = .ok (.goto 9, 3) := by decide +kernel
theorem dX12_normalOf_18 : decode cX12_normalOf 18 = .ok (.aload_n 0, 1) := by decide +kernel
theorem dX12_normalOf_19 : decode cX12_normalOf 19 = .ok (.getfield 97, 3) := by decide +kernel
theorem dX12_normalOf_22 : decode cX12_normalOf 22 = .ok (.iload_n 1, 1) := by decide +kernel
theorem dX12_normalOf_23 : decode cX12_normalOf 23 = .ok (.iaload, 1) := by decide +kernel
theorem dX12_normalOf_24 : decode cX12_normalOf 24 = .ok (.ireturn, 1) := by decide +kernel
theorem dX12_normalOf_25 : decode cX12_normalOf 25 = .ok (.iload_n 3, 1) := by decide +kernel
theorem dX12_normalOf_26 : decode cX12_normalOf 26 = .ok (.ifCond .eq 17, 3) := by decide +kernel
theorem dX12_normalOf_29 : decode cX12_normalOf 29 = .ok (.aload_n 0, 1) := by decide +kernel
theorem dX12_normalOf_30 : decode cX12_normalOf 30 = .ok (.getfield 142, 3) := by decide +kernel
theorem dX12_normalOf_33 : decode cX12_normalOf 33 = .ok (.bipush 7, 2) := by decide +kernel
theorem dX12_normalOf_35 : decode cX12_normalOf 35 = .ok (.iload_n 1, 1) := by decide +kernel
theorem dX12_normalOf_36 : decode cX12_normalOf 36 = .ok (.imul, 1) := by decide +kernel
theorem dX12_normalOf_37 : decode cX12_normalOf 37 = .ok (.iload_n 2, 1) := by decide +kernel
theorem dX12_normalOf_38 : decode cX12_normalOf 38 = .ok (.iadd, 1) := by decide +kernel
theorem dX12_normalOf_39 : decode cX12_normalOf 39 = .ok (.iaload, 1) := by decide +kernel
theorem dX12_normalOf_40 : decode cX12_normalOf 40 = .ok (.goto 14, 3) := by decide +kernel
theorem dX12_normalOf_43 : decode cX12_normalOf 43 = .ok (.aload_n 0, 1) := by decide +kernel
theorem dX12_normalOf_44 : decode cX12_normalOf 44 = .ok (.getfield 139, 3) := by decide +kernel
theorem dX12_normalOf_47 : decode cX12_normalOf 47 = .ok (.bipush 7, 2) := by decide +kernel
theorem dX12_normalOf_49 : decode cX12_normalOf 49 = .ok (.iload_n 1, 1) := by decide +kernel
theorem dX12_normalOf_50 : decode cX12_normalOf 50 = .ok (.imul, 1) := by decide +kernel
theorem dX12_normalOf_51 : decode cX12_normalOf 51 = .ok (.iload_n 2, 1) := by decide +kernel
theorem dX12_normalOf_52 : decode cX12_normalOf 52 = .ok (.iadd, 1) := by decide +kernel
theorem dX12_normalOf_53 : decode cX12_normalOf 53 = .ok (.iaload, 1) := by decide +kernel
theorem dX12_normalOf_54 : decode cX12_normalOf 54 = .ok (.ireturn, 1) := by decide +kernel
theorem dX12_lengthOf_0 : decode cX12_lengthOf 0 = .ok (.iload_n 2, 1) := by decide +kernel
theorem dX12_lengthOf_1 : decode cX12_lengthOf 1 = .ok (.iload_n 1, 1) := by decide +kernel
theorem dX12_lengthOf_2 : decode cX12_lengthOf 2 = .ok (.if_icmp .ne 12, 3) := by decide +kernel
theorem dX12_lengthOf_5 : decode cX12_lengthOf 5 = .ok (.aload_n 0, 1) := by decide +kernel
theorem dX12_lengthOf_6 : decode cX12_lengthOf 6 = .ok (.getfield 103, 3) := by decide +kernel
theorem dX12_lengthOf_9 : decode cX12_lengthOf 9 = .ok (.iload_n 1, 1) := by decide +kernel
theorem dX12_lengthOf_10 : decode cX12_lengthOf 10 = .ok (.iaload, 1) := by decide +kernel
theorem dX12_lengthOf_11 : decode cX12_lengthOf 11 = .ok (.goto 14, 3) := by decide +kernel
theorem dX12_lengthOf_14 : decode cX12_lengthOf 14 = .ok (.aload_n 0, 1) := by decide +kernel
theorem dX12_lengthOf_15 : decode cX12_lengthOf 15 = .ok (.getfield 148, 3) := by decide +kernel
theorem dX12_lengthOf_18 : decode cX12_lengthOf 18 = .ok (.bipush 7, 2) := by decide +kernel
theorem dX12_lengthOf_20 : decode cX12_lengthOf 20 = .ok (.iload_n 1, 1) := by decide +kernel
theorem dX12_lengthOf_21 : decode cX12_lengthOf 21 = .ok (.imul, 1) := by decide +kernel
theorem dX12_lengthOf_22 : decode cX12_lengthOf 22 = .ok (.iload_n 2, 1) := by decide +kernel
theorem dX12_lengthOf_23 : decode cX12_lengthOf 23 = .ok (.iadd, 1) := by decide +kernel
theorem dX12_lengthOf_24 : decode cX12_lengthOf 24 = .ok (.iaload, 1) := by decide +kernel
theorem dX12_lengthOf_25 : decode cX12_lengthOf 25 = .ok (.ireturn, 1) := by decide +kernel
theorem dX12_entryOf_0 : decode cX12_entryOf 0 = .ok (.iload_n 2, 1) := by decide +kernel
theorem dX12_entryOf_1 : decode cX12_entryOf 1 = .ok (.iload_n 1, 1) := by decide +kernel
theorem dX12_entryOf_2 : decode cX12_entryOf 2 = .ok (.if_icmp .ne 17, 3) := by decide +kernel
theorem dX12_entryOf_5 : decode cX12_entryOf 5 = .ok (.aload_n 0, 1) := by decide +kernel
theorem dX12_entryOf_6 : decode cX12_entryOf 6 = .ok (.getfield 115, 3) := by decide +kernel
theorem dX12_entryOf_9 : decode cX12_entryOf 9 = .ok (.bipush 100, 2) := by decide +kernel
theorem dX12_entryOf_11 : decode cX12_entryOf 11 = .ok (.iload_n 1, 1) := by decide +kernel
theorem dX12_entryOf_12 : decode cX12_entryOf 12 = .ok (.imul, 1) := by decide +kernel
theorem dX12_entryOf_13 : decode cX12_entryOf 13 = .ok (.iload_n 3, 1) := by decide +kernel
theorem dX12_entryOf_14 : decode cX12_entryOf 14 = .ok (.iadd, 1) := by decide +kernel
theorem dX12_entryOf_15 : decode cX12_entryOf 15 = .ok (.iaload, 1) := by decide +kernel
theorem dX12_entryOf_16 : decode cX12_entryOf 16 = .ok (.goto 19, 3) := by decide +kernel
theorem dX12_entryOf_19 : decode cX12_entryOf 19 = .ok (.aload_n 0, 1) := by decide +kernel
theorem dX12_entryOf_20 : decode cX12_entryOf 20 = .ok (.getfield 151, 3) := by decide +kernel
theorem dX12_entryOf_23 : decode cX12_entryOf 23 = .ok (.bipush 100, 2) := by decide +kernel
theorem dX12_entryOf_25 : decode cX12_entryOf 25 = .ok (.bipush 7, 2) := by decide +kernel
theorem dX12_entryOf_27 : decode cX12_entryOf 27 = .ok (.iload_n 1, 1) := by decide +kernel
theorem dX12_entryOf_28 : decode cX12_entryOf 28 = .ok (.imul, 1) := by decide +kernel
theorem dX12_entryOf_29 : decode cX12_entryOf 29 = .ok (.iload_n 2, 1) := by decide +kernel
theorem dX12_entryOf_30 : decode cX12_entryOf 30 = .ok (.iadd, 1) := by decide +kernel
theorem dX12_entryOf_31 : decode cX12_entryOf 31 = .ok (.imul, 1) := by decide +kernel
theorem dX12_entryOf_32 : decode cX12_entryOf 32 = .ok (.iload_n 3, 1) := by decide +kernel
theorem dX12_entryOf_33 : decode cX12_entryOf 33 = .ok (.iadd, 1) := by decide +kernel
theorem dX12_entryOf_34 : decode cX12_entryOf 34 = .ok (.iaload, 1) := by decide +kernel
theorem dX12_entryOf_35 : decode cX12_entryOf 35 = .ok (.ireturn, 1) := by decide +kernel
theorem dX12_isIn_0 : decode cX12_isIn 0 = .ok (.iload_n 2, 1) := by decide +kernel
theorem dX12_isIn_1 : decode cX12_isIn 1 = .ok (.iload_n 1, 1) := by decide +kernel
theorem dX12_isIn_2 : decode cX12_isIn 2 = .ok (.if_icmp .eq 17, 3) := by decide +kernel
theorem dX12_isIn_5 : decode cX12_isIn 5 = .ok (.aload_n 0, 1) := by decide +kernel
theorem dX12_isIn_6 : decode cX12_isIn 6 = .ok (.getfield 136, 3) := by decide +kernel
theorem dX12_isIn_9 : decode cX12_isIn 9 = .ok (.iload_n 1, 1) := by decide +kernel
theorem dX12_isIn_10 : decode cX12_isIn 10 = .ok (.iaload, 1) := by decide +kernel
theorem dX12_isIn_11 : decode cX12_isIn 11 = .ok (.iload_n 2, 1) := by decide +kernel
theorem dX12_isIn_12 : decode cX12_isIn 12 = .ok (.ishr, 1) := by decide +kernel
theorem dX12_isIn_13 : decode cX12_isIn 13 = .ok (.iconst 1, 1) := by decide +kernel
theorem dX12_isIn_14 : decode cX12_isIn 14 = .ok (.iand, 1) := by decide +kernel
theorem dX12_isIn_15 : decode cX12_isIn 15 = .ok (.iconst 1, 1) := by decide +kernel
theorem dX12_isIn_16 : decode cX12_isIn 16 = .ok (.if_icmp .ne 7, 3) := by decide +kernel
theorem dX12_isIn_19 : decode cX12_isIn 19 = .ok (.iconst 1, 1) := by decide +kernel
theorem dX12_isIn_20 : decode cX12_isIn 20 = .ok (.goto 4, 3) := by decide +kernel
theorem dX12_isIn_23 : decode cX12_isIn 23 = .ok (.iconst 0, 1) := by decide +kernel
theorem dX12_isIn_24 : decode cX12_isIn 24 = .ok (.ireturn, 1) := by decide +kernel
theorem dX12_mergedAt_0 : decode cX12_mergedAt 0 = .ok (.aload_n 0, 1) := by decide +kernel
theorem dX12_mergedAt_1 : decode cX12_mergedAt 1 = .ok (.getfield 97, 3) := by decide +kernel
theorem dX12_mergedAt_4 : decode cX12_mergedAt 4 = .ok (.iload_n 1, 1) := by decide +kernel
theorem dX12_mergedAt_5 : decode cX12_mergedAt 5 = .ok (.iaload, 1) := by decide +kernel
theorem dX12_mergedAt_6 : decode cX12_mergedAt 6 = .ok (.iload_n 3, 1) := by decide +kernel
theorem dX12_mergedAt_7 : decode cX12_mergedAt 7 = .ok (.if_icmp .ne 38, 3) := by decide +kernel
theorem dX12_mergedAt_10 : decode cX12_mergedAt 10 = .ok (.aload_n 0, 1) := by decide +kernel
theorem dX12_mergedAt_11 : decode cX12_mergedAt 11 = .ok (.getfield 100, 3) := by decide +kernel
theorem dX12_mergedAt_14 : decode cX12_mergedAt 14 = .ok (.iload_n 1, 1) := by decide +kernel
theorem dX12_mergedAt_15 : decode cX12_mergedAt 15 = .ok (.iaload, 1) := by decide +kernel
theorem dX12_mergedAt_16 : decode cX12_mergedAt 16 = .ok (.iload 4, 2) := by decide +kernel
theorem dX12_mergedAt_18 : decode cX12_mergedAt 18 = .ok (.if_icmp .ne 27, 3) := by decide +kernel
theorem dX12_mergedAt_21 : decode cX12_mergedAt 21 = .ok (.iload_n 2, 1) := by decide +kernel
theorem dX12_mergedAt_22 : decode cX12_mergedAt 22 = .ok (.aload_n 0, 1) := by decide +kernel
theorem dX12_mergedAt_23 : decode cX12_mergedAt 23 = .ok (.getfield 103, 3) := by decide +kernel
theorem dX12_mergedAt_26 : decode cX12_mergedAt 26 = .ok (.iload_n 1, 1) := by decide +kernel
theorem dX12_mergedAt_27 : decode cX12_mergedAt 27 = .ok (.iaload, 1) := by decide +kernel
theorem dX12_mergedAt_28 : decode cX12_mergedAt 28 = .ok (.if_icmp .ge 17, 3) := by decide +kernel
theorem dX12_mergedAt_31 : decode cX12_mergedAt 31 = .ok (.aload_n 0, 1) := by decide +kernel
theorem dX12_mergedAt_32 : decode cX12_mergedAt 32 = .ok (.getfield 115, 3) := by decide +kernel
theorem dX12_mergedAt_35 : decode cX12_mergedAt 35 = .ok (.bipush 100, 2) := by decide +kernel
theorem dX12_mergedAt_37 : decode cX12_mergedAt 37 = .ok (.iload_n 1, 1) := by decide +kernel
theorem dX12_mergedAt_38 : decode cX12_mergedAt 38 = .ok (.imul, 1) := by decide +kernel
theorem dX12_mergedAt_39 : decode cX12_mergedAt 39 = .ok (.iload_n 2, 1) := by decide +kernel
theorem dX12_mergedAt_40 : decode cX12_mergedAt 40 = .ok (.iadd, 1) := by decide +kernel
theorem dX12_mergedAt_41 : decode cX12_mergedAt 41 = .ok (.iaload, 1) := by decide +kernel
theorem dX12_mergedAt_42 : decode cX12_mergedAt 42 = .ok (.goto 4, 3) := by decide +kernel
theorem dX12_mergedAt_45 : decode cX12_mergedAt 45 = .ok (.iconst (-1), 1) := by decide +kernel
theorem dX12_mergedAt_46 : decode cX12_mergedAt 46 = .ok (.istore 5, 2) := by decide +kernel
theorem dX12_mergedAt_48 : decode cX12_mergedAt 48 = .ok (.iconst 0, 1) := by decide +kernel
theorem dX12_mergedAt_49 : decode cX12_mergedAt 49 = .ok (.istore 6, 2) := by decide +kernel
theorem dX12_mergedAt_51 : decode cX12_mergedAt 51 = .ok (.iload 6, 2) := by decide +kernel
theorem dX12_mergedAt_53 : decode cX12_mergedAt 53 = .ok (.aload_n 0, 1) := by decide +kernel
theorem dX12_mergedAt_54 : decode cX12_mergedAt 54 = .ok (.getfield 223, 3) := by decide +kernel
theorem dX12_mergedAt_57 : decode cX12_mergedAt 57 = .ok (.if_icmp .ge 95, 3) := by decide +kernel
theorem dX12_mergedAt_60 : decode cX12_mergedAt 60 = .ok (.aload_n 0, 1) := by decide +kernel
theorem dX12_mergedAt_61 : decode cX12_mergedAt 61 = .ok (.iload_n 1, 1) := by decide +kernel
theorem dX12_mergedAt_62 : decode cX12_mergedAt 62 = .ok (.iload 6, 2) := by decide +kernel
theorem dX12_mergedAt_64 : decode cX12_mergedAt 64 = .ok (.invokevirtual 287, 3) := by decide +kernel
theorem dX12_mergedAt_67 : decode cX12_mergedAt 67 = .ok (.ifCond .eq 79, 3) := by decide +kernel
theorem dX12_mergedAt_70 : decode cX12_mergedAt 70 = .ok (.aload_n 0, 1) := by decide +kernel
theorem dX12_mergedAt_71 : decode cX12_mergedAt 71 = .ok (.iload_n 1, 1) := by decide +kernel
theorem dX12_mergedAt_72 : decode cX12_mergedAt 72 = .ok (.iload 6, 2) := by decide +kernel
theorem dX12_mergedAt_74 : decode cX12_mergedAt 74 = .ok (.iconst 0, 1) := by decide +kernel
theorem dX12_mergedAt_75 : decode cX12_mergedAt 75 = .ok (.invokevirtual 291, 3) := by decide +kernel
theorem dX12_mergedAt_78 : decode cX12_mergedAt 78 = .ok (.iload_n 3, 1) := by decide +kernel
theorem dX12_mergedAt_79 : decode cX12_mergedAt 79 = .ok (.if_icmp .ne 67, 3) := by decide +kernel
theorem dX12_mergedAt_82 : decode cX12_mergedAt 82 = .ok (.aload_n 0, 1) := by decide +kernel
theorem dX12_mergedAt_83 : decode cX12_mergedAt 83 = .ok (.iload_n 1, 1) := by decide +kernel
theorem dX12_mergedAt_84 : decode cX12_mergedAt 84 = .ok (.iload 6, 2) := by decide +kernel
theorem dX12_mergedAt_86 : decode cX12_mergedAt 86 = .ok (.iconst 1, 1) := by decide +kernel
theorem dX12_mergedAt_87 : decode cX12_mergedAt 87 = .ok (.invokevirtual 291, 3) := by decide +kernel
theorem dX12_mergedAt_90 : decode cX12_mergedAt 90 = .ok (.iload 4, 2) := by decide +kernel
theorem dX12_mergedAt_92 : decode cX12_mergedAt 92 = .ok (.if_icmp .ne 54, 3) := by decide +kernel
theorem dX12_mergedAt_95 : decode cX12_mergedAt 95 = .ok (.iload_n 2, 1) := by decide +kernel
theorem dX12_mergedAt_96 : decode cX12_mergedAt 96 = .ok (.aload_n 0, 1) := by decide +kernel
theorem dX12_mergedAt_97 : decode cX12_mergedAt 97 = .ok (.iload_n 1, 1) := by decide +kernel
theorem dX12_mergedAt_98 : decode cX12_mergedAt 98 = .ok (.iload 6, 2) := by decide +kernel
theorem dX12_mergedAt_100 : decode cX12_mergedAt 100 = .ok (.invokevirtual 295, 3) := by decide +kernel
theorem dX12_mergedAt_103 : decode cX12_mergedAt 103 = .ok (.if_icmp .lt 6, 3) := by decide +kernel
theorem dX12_mergedAt_106 : decode cX12_mergedAt 106 = .ok (.goto 40, 3) := by decide +kernel
theorem dX12_mergedAt_109 : decode cX12_mergedAt 109 = .ok (.aload_n 0, 1) := by decide +kernel
theorem dX12_mergedAt_110 : decode cX12_mergedAt 110 = .ok (.iload_n 1, 1) := by decide +kernel
theorem dX12_mergedAt_111 : decode cX12_mergedAt 111 = .ok (.iload 6, 2) := by decide +kernel
theorem dX12_mergedAt_113 : decode cX12_mergedAt 113 = .ok (.iload_n 2, 1) := by decide +kernel
theorem dX12_mergedAt_114 : decode cX12_mergedAt 114 = .ok (.invokevirtual 298, 3) := by decide +kernel
theorem dX12_mergedAt_117 : decode cX12_mergedAt 117 = .ok (.istore 7, 2) := by decide +kernel
theorem dX12_mergedAt_119 : decode cX12_mergedAt 119 = .ok (.iload 7, 2) := by decide +kernel
theorem dX12_mergedAt_121 : decode cX12_mergedAt 121 = .ok (.ifCond .eq 9, 3) := by decide +kernel
theorem dX12_mergedAt_124 : decode cX12_mergedAt 124 = .ok (.iload 5, 2) := by decide +kernel
theorem dX12_mergedAt_126 : decode cX12_mergedAt 126 = .ok (.iconst (-1), 1) := by decide +kernel
theorem dX12_mergedAt_127 : decode cX12_mergedAt 127 = .ok (.if_icmp .ne 8, 3) := by decide +kernel
theorem dX12_mergedAt_130 : decode cX12_mergedAt 130 = .ok (.iload 7, 2) := by decide +kernel
theorem dX12_mergedAt_132 : decode cX12_mergedAt 132 = .ok (.goto 5, 3) := by decide +kernel
theorem dX12_mergedAt_135 : decode cX12_mergedAt 135 = .ok (.iload 5, 2) := by decide +kernel
theorem dX12_mergedAt_137 : decode cX12_mergedAt 137 = .ok (.istore 5, 2) := by decide +kernel
theorem dX12_mergedAt_139 : decode cX12_mergedAt 139 = .ok (.iload 7, 2) := by decide +kernel
theorem dX12_mergedAt_141 : decode cX12_mergedAt 141 = .ok (.ifCond .ne 5, 3) := by decide +kernel
theorem dX12_mergedAt_144 : decode cX12_mergedAt 144 = .ok (.iconst 0, 1) := by decide +kernel
theorem dX12_mergedAt_145 : decode cX12_mergedAt 145 = .ok (.ireturn, 1) := by decide +kernel
theorem dX12_mergedAt_146 : decode cX12_mergedAt 146 = .ok (.iinc 6 1, 3) := by decide +kernel
theorem dX12_mergedAt_149 : decode cX12_mergedAt 149 = .ok (.goto (-98), 3) := by decide +kernel
theorem dX12_mergedAt_152 : decode cX12_mergedAt 152 = .ok (.iload 5, 2) := by decide +kernel
theorem dX12_mergedAt_154 : decode cX12_mergedAt 154 = .ok (.ireturn, 1) := by decide +kernel
theorem dX12_merge_0 : decode cX12_merge 0 = .ok (.aload_n 0, 1) := by decide +kernel
theorem dX12_merge_1 : decode cX12_merge 1 = .ok (.getfield 136, 3) := by decide +kernel
theorem dX12_merge_4 : decode cX12_merge 4 = .ok (.iload_n 1, 1) := by decide +kernel
theorem dX12_merge_5 : decode cX12_merge 5 = .ok (.iaload, 1) := by decide +kernel
theorem dX12_merge_6 : decode cX12_merge 6 = .ok (.invokestatic 302, 3) := by decide +kernel
theorem dX12_merge_9 : decode cX12_merge 9 = .ok (.aload_n 0, 1) := by decide +kernel
theorem dX12_merge_10 : decode cX12_merge 10 = .ok (.getfield 226, 3) := by decide +kernel
theorem dX12_merge_13 : decode cX12_merge 13 = .ok (.if_icmp .ge 4, 3) := by decide +kernel
theorem dX12_merge_16 : decode cX12_merge 16 = .ok (.return_, 1) := by decide +kernel
theorem dX12_merge_17 : decode cX12_merge 17 = .ok (.aload_n 0, 1) := by decide +kernel
theorem dX12_merge_18 : decode cX12_merge 18 = .ok (.getfield 97, 3) := by decide +kernel
theorem dX12_merge_21 : decode cX12_merge 21 = .ok (.iload_n 1, 1) := by decide +kernel
theorem dX12_merge_22 : decode cX12_merge 22 = .ok (.iaload, 1) := by decide +kernel
theorem dX12_merge_23 : decode cX12_merge 23 = .ok (.istore_n 2, 1) := by decide +kernel
theorem dX12_merge_24 : decode cX12_merge 24 = .ok (.aload_n 0, 1) := by decide +kernel
theorem dX12_merge_25 : decode cX12_merge 25 = .ok (.getfield 100, 3) := by decide +kernel
theorem dX12_merge_28 : decode cX12_merge 28 = .ok (.iload_n 1, 1) := by decide +kernel
theorem dX12_merge_29 : decode cX12_merge 29 = .ok (.iaload, 1) := by decide +kernel
theorem dX12_merge_30 : decode cX12_merge 30 = .ok (.istore_n 3, 1) := by decide +kernel
theorem dX12_merge_31 : decode cX12_merge 31 = .ok (.iconst 0, 1) := by decide +kernel
theorem dX12_merge_32 : decode cX12_merge 32 = .ok (.istore 4, 2) := by decide +kernel
theorem dX12_merge_34 : decode cX12_merge 34 = .ok (.iload 4, 2) := by decide +kernel
theorem dX12_merge_36 : decode cX12_merge 36 = .ok (.aload_n 0, 1) := by decide +kernel
theorem dX12_merge_37 : decode cX12_merge 37 = .ok (.getfield 223, 3) := by decide +kernel
theorem dX12_merge_40 : decode cX12_merge 40 = .ok (.if_icmp .ge 69, 3) := by decide +kernel
theorem dX12_merge_43 : decode cX12_merge 43 = .ok (.aload_n 0, 1) := by decide +kernel
theorem dX12_merge_44 : decode cX12_merge 44 = .ok (.iload_n 1, 1) := by decide +kernel
theorem dX12_merge_45 : decode cX12_merge 45 = .ok (.iload 4, 2) := by decide +kernel
theorem dX12_merge_47 : decode cX12_merge 47 = .ok (.invokevirtual 287, 3) := by decide +kernel
theorem dX12_merge_50 : decode cX12_merge 50 = .ok (.ifCond .ne 6, 3) := by decide +kernel
theorem dX12_merge_53 : decode cX12_merge 53 = .ok (.goto 50, 3) := by decide +kernel
theorem dX12_merge_56 : decode cX12_merge 56 = .ok (.aload_n 0, 1) := by decide +kernel
theorem dX12_merge_57 : decode cX12_merge 57 = .ok (.iload_n 1, 1) := by decide +kernel
theorem dX12_merge_58 : decode cX12_merge 58 = .ok (.iload 4, 2) := by decide +kernel
theorem dX12_merge_60 : decode cX12_merge 60 = .ok (.iconst 0, 1) := by decide +kernel
theorem dX12_merge_61 : decode cX12_merge 61 = .ok (.invokevirtual 291, 3) := by decide +kernel
theorem dX12_merge_64 : decode cX12_merge 64 = .ok (.istore 5, 2) := by decide +kernel
theorem dX12_merge_66 : decode cX12_merge 66 = .ok (.aload_n 0, 1) := by decide +kernel
theorem dX12_merge_67 : decode cX12_merge 67 = .ok (.iload_n 1, 1) := by decide +kernel
theorem dX12_merge_68 : decode cX12_merge 68 = .ok (.iload 4, 2) := by decide +kernel
theorem dX12_merge_70 : decode cX12_merge 70 = .ok (.iconst 1, 1) := by decide +kernel
theorem dX12_merge_71 : decode cX12_merge 71 = .ok (.invokevirtual 291, 3) := by decide +kernel
theorem dX12_merge_74 : decode cX12_merge 74 = .ok (.istore 6, 2) := by decide +kernel
theorem dX12_merge_76 : decode cX12_merge 76 = .ok (.iload 6, 2) := by decide +kernel
theorem dX12_merge_78 : decode cX12_merge 78 = .ok (.iload_n 3, 1) := by decide +kernel
theorem dX12_merge_79 : decode cX12_merge 79 = .ok (.if_icmp .lt 24, 3) := by decide +kernel
theorem dX12_merge_82 : decode cX12_merge 82 = .ok (.iload 6, 2) := by decide +kernel
theorem dX12_merge_84 : decode cX12_merge 84 = .ok (.iload_n 3, 1) := by decide +kernel
theorem dX12_merge_85 : decode cX12_merge 85 = .ok (.if_icmp .ne 12, 3) := by decide +kernel
theorem dX12_merge_88 : decode cX12_merge 88 = .ok (.iload 5, 2) := by decide +kernel
theorem dX12_merge_90 : decode cX12_merge 90 = .ok (.iload_n 2, 1) := by decide +kernel
theorem dX12_merge_91 : decode cX12_merge 91 = .ok (.if_icmp .gt 6, 3) := by decide +kernel
theorem dX12_merge_94 : decode cX12_merge 94 = .ok (.goto 9, 3) := by decide +kernel
theorem dX12_merge_97 : decode cX12_merge 97 = .ok (.iload 5, 2) := by decide +kernel
theorem dX12_merge_99 : decode cX12_merge 99 = .ok (.istore_n 2, 1) := by decide +kernel
theorem dX12_merge_100 : decode cX12_merge 100 = .ok (.iload 6, 2) := by decide +kernel
theorem dX12_merge_102 : decode cX12_merge 102 = .ok (.istore_n 3, 1) := by decide +kernel
theorem dX12_merge_103 : decode cX12_merge 103 = .ok (.iinc 4 1, 3) := by decide +kernel
theorem dX12_merge_106 : decode cX12_merge 106 = .ok (.goto (-72), 3) := by decide +kernel
theorem dX12_merge_109 : decode cX12_merge 109 = .ok (.iconst 0, 1) := by decide +kernel
theorem dX12_merge_110 : decode cX12_merge 110 = .ok (.istore 4, 2) := by decide +kernel
theorem dX12_merge_112 : decode cX12_merge 112 = .ok (.iconst (-1), 1) := by decide +kernel
theorem dX12_merge_113 : decode cX12_merge 113 = .ok (.istore 5, 2) := by decide +kernel
theorem dX12_merge_115 : decode cX12_merge 115 = .ok (.iconst 0, 1) := by decide +kernel
theorem dX12_merge_116 : decode cX12_merge 116 = .ok (.istore 6, 2) := by decide +kernel
theorem dX12_merge_118 : decode cX12_merge 118 = .ok (.iload 6, 2) := by decide +kernel
theorem dX12_merge_120 : decode cX12_merge 120 = .ok (.aload_n 0, 1) := by decide +kernel
theorem dX12_merge_121 : decode cX12_merge 121 = .ok (.getfield 223, 3) := by decide +kernel
theorem dX12_merge_124 : decode cX12_merge 124 = .ok (.if_icmp .ge 82, 3) := by decide +kernel
theorem dX12_merge_127 : decode cX12_merge 127 = .ok (.aload_n 0, 1) := by decide +kernel
theorem dX12_merge_128 : decode cX12_merge 128 = .ok (.iload_n 1, 1) := by decide +kernel
theorem dX12_merge_129 : decode cX12_merge 129 = .ok (.iload 6, 2) := by decide +kernel
theorem dX12_merge_131 : decode cX12_merge 131 = .ok (.invokevirtual 287, 3) := by decide +kernel
theorem dX12_merge_134 : decode cX12_merge 134 = .ok (.ifCond .eq 66, 3) := by decide +kernel
theorem dX12_merge_137 : decode cX12_merge 137 = .ok (.aload_n 0, 1) := by decide +kernel
theorem dX12_merge_138 : decode cX12_merge 138 = .ok (.iload_n 1, 1) := by decide +kernel
theorem dX12_merge_139 : decode cX12_merge 139 = .ok (.iload 6, 2) := by decide +kernel
theorem dX12_merge_141 : decode cX12_merge 141 = .ok (.iconst 0, 1) := by decide +kernel
theorem dX12_merge_142 : decode cX12_merge 142 = .ok (.invokevirtual 291, 3) := by decide +kernel
theorem dX12_merge_145 : decode cX12_merge 145 = .ok (.iload_n 2, 1) := by decide +kernel
theorem dX12_merge_146 : decode cX12_merge 146 = .ok (.if_icmp .ne 54, 3) := by decide +kernel
theorem dX12_merge_149 : decode cX12_merge 149 = .ok (.aload_n 0, 1) := by decide +kernel
theorem dX12_merge_150 : decode cX12_merge 150 = .ok (.iload_n 1, 1) := by decide +kernel
theorem dX12_merge_151 : decode cX12_merge 151 = .ok (.iload 6, 2) := by decide +kernel
theorem dX12_merge_153 : decode cX12_merge 153 = .ok (.iconst 1, 1) := by decide +kernel
theorem dX12_merge_154 : decode cX12_merge 154 = .ok (.invokevirtual 291, 3) := by decide +kernel
theorem dX12_merge_157 : decode cX12_merge 157 = .ok (.iload_n 3, 1) := by decide +kernel
theorem dX12_merge_158 : decode cX12_merge 158 = .ok (.if_icmp .eq 6, 3) := by decide +kernel
theorem dX12_merge_161 : decode cX12_merge 161 = .ok (.goto 39, 3) := by decide +kernel
theorem dX12_merge_164 : decode cX12_merge 164 = .ok (.aload_n 0, 1) := by decide +kernel
theorem dX12_merge_165 : decode cX12_merge 165 = .ok (.iload_n 1, 1) := by decide +kernel
theorem dX12_merge_166 : decode cX12_merge 166 = .ok (.iload 6, 2) := by decide +kernel
theorem dX12_merge_168 : decode cX12_merge 168 = .ok (.invokevirtual 295, 3) := by decide +kernel
theorem dX12_merge_171 : decode cX12_merge 171 = .ok (.iload 4, 2) := by decide +kernel
theorem dX12_merge_173 : decode cX12_merge 173 = .ok (.if_icmp .le 13, 3) := by decide +kernel
theorem dX12_merge_176 : decode cX12_merge 176 = .ok (.aload_n 0, 1) := by decide +kernel
theorem dX12_merge_177 : decode cX12_merge 177 = .ok (.iload_n 1, 1) := by decide +kernel
theorem dX12_merge_178 : decode cX12_merge 178 = .ok (.iload 6, 2) := by decide +kernel
theorem dX12_merge_180 : decode cX12_merge 180 = .ok (.invokevirtual 295, 3) := by decide +kernel
theorem dX12_merge_183 : decode cX12_merge 183 = .ok (.goto 5, 3) := by decide +kernel
theorem dX12_merge_186 : decode cX12_merge 186 = .ok (.iload 4, 2) := by decide +kernel
theorem dX12_merge_188 : decode cX12_merge 188 = .ok (.istore 4, 2) := by decide +kernel
theorem dX12_merge_190 : decode cX12_merge 190 = .ok (.iload 5, 2) := by decide +kernel
theorem dX12_merge_192 : decode cX12_merge 192 = .ok (.iconst (-1), 1) := by decide +kernel
theorem dX12_merge_193 : decode cX12_merge 193 = .ok (.if_icmp .ne 7, 3) := by decide +kernel
theorem dX12_merge_196 : decode cX12_merge 196 = .ok (.iload 6, 2) := by decide +kernel
theorem dX12_merge_198 : decode cX12_merge 198 = .ok (.istore 5, 2) := by decide +kernel
theorem dX12_merge_200 : decode cX12_merge 200 = .ok (.iinc 6 1, 3) := by decide +kernel
theorem dX12_merge_203 : decode cX12_merge 203 = .ok (.goto (-85), 3) := by decide +kernel
theorem dX12_merge_206 : decode cX12_merge 206 = .ok (.aload_n 0, 1) := by decide +kernel
theorem dX12_merge_207 : decode cX12_merge 207 = .ok (.getfield 97, 3) := by decide +kernel
theorem dX12_merge_210 : decode cX12_merge 210 = .ok (.iload_n 1, 1) := by decide +kernel
theorem dX12_merge_211 : decode cX12_merge 211 = .ok (.iaload, 1) := by decide +kernel
theorem dX12_merge_212 : decode cX12_merge 212 = .ok (.iload_n 2, 1) := by decide +kernel
theorem dX12_merge_213 : decode cX12_merge 213 = .ok (.if_icmp .ne 16, 3) := by decide +kernel
theorem dX12_merge_216 : decode cX12_merge 216 = .ok (.aload_n 0, 1) := by decide +kernel
theorem dX12_merge_217 : decode cX12_merge 217 = .ok (.getfield 100, 3) := by decide +kernel
theorem dX12_merge_220 : decode cX12_merge 220 = .ok (.iload_n 1, 1) := by decide +kernel
theorem dX12_merge_221 : decode cX12_merge 221 = .ok (.iaload, 1) := by decide +kernel
theorem dX12_merge_222 : decode cX12_merge 222 = .ok (.iload_n 3, 1) := by decide +kernel
theorem dX12_merge_223 : decode cX12_merge 223 = .ok (.if_icmp .ne 6, 3) := by decide +kernel
theorem dX12_merge_226 : decode cX12_merge 226 = .ok (.iload_n 1, 1) := by decide +kernel
theorem dX12_merge_227 : decode cX12_merge 227 = .ok (.istore 5, 2) := by decide +kernel
theorem dX12_merge_229 : decode cX12_merge 229 = .ok (.iload 5, 2) := by decide +kernel
theorem dX12_merge_231 : decode cX12_merge 231 = .ok (.iload_n 1, 1) := by decide +kernel
theorem dX12_merge_232 : decode cX12_merge 232 = .ok (.if_icmp .ne 12, 3) := by decide +kernel
theorem dX12_merge_235 : decode cX12_merge 235 = .ok (.aload_n 0, 1) := by decide +kernel
theorem dX12_merge_236 : decode cX12_merge 236 = .ok (.getfield 106, 3) := by decide +kernel
theorem dX12_merge_239 : decode cX12_merge 239 = .ok (.iload_n 1, 1) := by decide +kernel
theorem dX12_merge_240 : decode cX12_merge 240 = .ok (.iaload, 1) := by decide +kernel
theorem dX12_merge_241 : decode cX12_merge 241 = .ok (.goto 15, 3) := by decide +kernel
theorem dX12_merge_244 : decode cX12_merge 244 = .ok (.aload_n 0, 1) := by decide +kernel
theorem dX12_merge_245 : decode cX12_merge 245 = .ok (.getfield 145, 3) := by decide +kernel
theorem dX12_merge_248 : decode cX12_merge 248 = .ok (.bipush 7, 2) := by decide +kernel
theorem dX12_merge_250 : decode cX12_merge 250 = .ok (.iload_n 1, 1) := by decide +kernel
theorem dX12_merge_251 : decode cX12_merge 251 = .ok (.imul, 1) := by decide +kernel
theorem dX12_merge_252 : decode cX12_merge 252 = .ok (.iload 5, 2) := by decide +kernel
theorem dX12_merge_254 : decode cX12_merge 254 = .ok (.iadd, 1) := by decide +kernel
theorem dX12_merge_255 : decode cX12_merge 255 = .ok (.iaload, 1) := by decide +kernel
theorem dX12_merge_256 : decode cX12_merge 256 = .ok (.istore 6, 2) := by decide +kernel
theorem dX12_merge_258 : decode cX12_merge 258 = .ok (.iconst 0, 1) := by decide +kernel
theorem dX12_merge_259 : decode cX12_merge 259 = .ok (.istore 7, 2) := by decide +kernel
theorem dX12_merge_261 : decode cX12_merge 261 = .ok (.iload 7, 2) := by decide +kernel
theorem dX12_merge_263 : decode cX12_merge 263 = .ok (.iload 4, 2) := by decide +kernel
theorem dX12_merge_265 : decode cX12_merge 265 = .ok (.if_icmp .ge 25, 3) := by decide +kernel
theorem dX12_merge_268 : decode cX12_merge 268 = .ok (.aload_n 0, 1) := by decide +kernel
theorem dX12_merge_269 : decode cX12_merge 269 = .ok (.getfield 154, 3) := by decide +kernel
theorem dX12_merge_272 : decode cX12_merge 272 = .ok (.iload 7, 2) := by decide +kernel
theorem dX12_merge_274 : decode cX12_merge 274 = .ok (.aload_n 0, 1) := by decide +kernel
theorem dX12_merge_275 : decode cX12_merge 275 = .ok (.iload_n 1, 1) := by decide +kernel
theorem dX12_merge_276 : decode cX12_merge 276 = .ok (.iload 7, 2) := by decide +kernel
theorem dX12_merge_278 : decode cX12_merge 278 = .ok (.iload_n 2, 1) := by decide +kernel
theorem dX12_merge_279 : decode cX12_merge 279 = .ok (.iload_n 3, 1) := by decide +kernel
theorem dX12_merge_280 : decode cX12_merge 280 = .ok (.invokevirtual 305, 3) := by decide +kernel
theorem dX12_merge_283 : decode cX12_merge 283 = .ok (.iastore, 1) := by decide +kernel
theorem dX12_merge_284 : decode cX12_merge 284 = .ok (.iinc 7 1, 3) := by decide +kernel
theorem dX12_merge_287 : decode cX12_merge 287 = .ok (.goto (-26), 3) := by decide +kernel
theorem dX12_merge_290 : decode cX12_merge 290 = .ok (.iconst 0, 1) := by decide +kernel
theorem dX12_merge_291 : decode cX12_merge 291 = .ok (.istore 7, 2) := by decide +kernel
theorem dX12_merge_293 : decode cX12_merge 293 = .ok (.iload 7, 2) := by decide +kernel
theorem dX12_merge_295 : decode cX12_merge 295 = .ok (.iload 4, 2) := by decide +kernel
theorem dX12_merge_297 : decode cX12_merge 297 = .ok (.if_icmp .ge 28, 3) := by decide +kernel
theorem dX12_merge_300 : decode cX12_merge 300 = .ok (.aload_n 0, 1) := by decide +kernel
theorem dX12_merge_301 : decode cX12_merge 301 = .ok (.getfield 115, 3) := by decide +kernel
theorem dX12_merge_304 : decode cX12_merge 304 = .ok (.bipush 100, 2) := by decide +kernel
theorem dX12_merge_306 : decode cX12_merge 306 = .ok (.iload_n 1, 1) := by decide +kernel
theorem dX12_merge_307 : decode cX12_merge 307 = .ok (.imul, 1) := by decide +kernel
theorem dX12_merge_308 : decode cX12_merge 308 = .ok (.iload 7, 2) := by decide +kernel
theorem dX12_merge_310 : decode cX12_merge 310 = .ok (.iadd, 1) := by decide +kernel
theorem dX12_merge_311 : decode cX12_merge 311 = .ok (.aload_n 0, 1) := by decide +kernel
theorem dX12_merge_312 : decode cX12_merge 312 = .ok (.getfield 154, 3) := by decide +kernel
theorem dX12_merge_315 : decode cX12_merge 315 = .ok (.iload 7, 2) := by decide +kernel
theorem dX12_merge_317 : decode cX12_merge 317 = .ok (.iaload, 1) := by decide +kernel
theorem dX12_merge_318 : decode cX12_merge 318 = .ok (.iastore, 1) := by decide +kernel
theorem dX12_merge_319 : decode cX12_merge 319 = .ok (.iinc 7 1, 3) := by decide +kernel
theorem dX12_merge_322 : decode cX12_merge 322 = .ok (.goto (-29), 3) := by decide +kernel
theorem dX12_merge_325 : decode cX12_merge 325 = .ok (.aload_n 0, 1) := by decide +kernel
theorem dX12_merge_326 : decode cX12_merge 326 = .ok (.getfield 103, 3) := by decide +kernel
theorem dX12_merge_329 : decode cX12_merge 329 = .ok (.iload_n 1, 1) := by decide +kernel
theorem dX12_merge_330 : decode cX12_merge 330 = .ok (.iload 4, 2) := by decide +kernel
theorem dX12_merge_332 : decode cX12_merge 332 = .ok (.iastore, 1) := by decide +kernel
theorem dX12_merge_333 : decode cX12_merge 333 = .ok (.aload_n 0, 1) := by decide +kernel
theorem dX12_merge_334 : decode cX12_merge 334 = .ok (.getfield 106, 3) := by decide +kernel
theorem dX12_merge_337 : decode cX12_merge 337 = .ok (.iload_n 1, 1) := by decide +kernel
theorem dX12_merge_338 : decode cX12_merge 338 = .ok (.iload_n 3, 1) := by decide +kernel
theorem dX12_merge_339 : decode cX12_merge 339 = .ok (.aload_n 0, 1) := by decide +kernel
theorem dX12_merge_340 : decode cX12_merge 340 = .ok (.getfield 91, 3) := by decide +kernel
theorem dX12_merge_343 : decode cX12_merge 343 = .ok (.iload_n 1, 1) := by decide +kernel
theorem dX12_merge_344 : decode cX12_merge 344 = .ok (.iaload, 1) := by decide +kernel
theorem dX12_merge_345 : decode cX12_merge 345 = .ok (.if_icmp .ne 8, 3) := by decide +kernel
theorem dX12_merge_348 : decode cX12_merge 348 = .ok (.iload 6, 2) := by decide +kernel
theorem dX12_merge_350 : decode cX12_merge 350 = .ok (.goto 5, 3) := by decide +kernel
theorem dX12_merge_353 : decode cX12_merge 353 = .ok (.iload 4, 2) := by decide +kernel
theorem dX12_merge_355 : decode cX12_merge 355 = .ok (.iastore, 1) := by decide +kernel
theorem dX12_merge_356 : decode cX12_merge 356 = .ok (.aload_n 0, 1) := by decide +kernel
theorem dX12_merge_357 : decode cX12_merge 357 = .ok (.iload_n 1, 1) := by decide +kernel
theorem dX12_merge_358 : decode cX12_merge 358 = .ok (.invokevirtual 309, 3) := by decide +kernel
theorem dX12_merge_361 : decode cX12_merge 361 = .ok (.iconst 0, 1) := by decide +kernel
theorem dX12_merge_362 : decode cX12_merge 362 = .ok (.istore 7, 2) := by decide +kernel
theorem dX12_merge_364 : decode cX12_merge 364 = .ok (.iload 7, 2) := by decide +kernel
theorem dX12_merge_366 : decode cX12_merge 366 = .ok (.aload_n 0, 1) := by decide +kernel
theorem dX12_merge_367 : decode cX12_merge 367 = .ok (.getfield 223, 3) := by decide +kernel
theorem dX12_merge_370 : decode cX12_merge 370 = .ok (.if_icmp .ge 45, 3) := by decide +kernel
theorem dX12_merge_373 : decode cX12_merge 373 = .ok (.iload 7, 2) := by decide +kernel
theorem dX12_merge_375 : decode cX12_merge 375 = .ok (.iload_n 1, 1) := by decide +kernel
theorem dX12_merge_376 : decode cX12_merge 376 = .ok (.if_icmp .eq 33, 3) := by decide +kernel
theorem dX12_merge_379 : decode cX12_merge 379 = .ok (.aload_n 0, 1) := by decide +kernel
theorem dX12_merge_380 : decode cX12_merge 380 = .ok (.aload_n 0, 1) := by decide +kernel
theorem dX12_merge_381 : decode cX12_merge 381 = .ok (.bipush 10, 2) := by decide +kernel
theorem dX12_merge_383 : decode cX12_merge 383 = .ok (.iload_n 1, 1) := by decide +kernel
theorem dX12_merge_384 : decode cX12_merge 384 = .ok (.iload 7, 2) := by decide +kernel
theorem dX12_merge_386 : decode cX12_merge 386 = .ok (.aload_n 0, 1) := by decide +kernel
theorem dX12_merge_387 : decode cX12_merge 387 = .ok (.getfield 88, 3) := by decide +kernel
theorem dX12_merge_390 : decode cX12_merge 390 = .ok (.iload_n 1, 1) := by decide +kernel
theorem dX12_merge_391 : decode cX12_merge 391 = .ok (.iaload, 1) := by decide +kernel
theorem dX12_merge_392 : decode cX12_merge 392 = .ok (.aload_n 0, 1) := by decide +kernel
theorem dX12_merge_393 : decode cX12_merge 393 = .ok (.getfield 91, 3) := by decide +kernel
theorem dX12_merge_396 : decode cX12_merge 396 = .ok (.iload_n 1, 1) := by decide +kernel
theorem dX12_merge_397 : decode cX12_merge 397 = .ok (.iaload, 1) := by decide +kernel
theorem dX12_merge_398 : decode cX12_merge 398 = .ok (.iconst 0, 1) := by decide +kernel
theorem dX12_merge_399 : decode cX12_merge 399 = .ok (.iconst 0, 1) := by decide +kernel
theorem dX12_merge_400 : decode cX12_merge 400 = .ok (.invokevirtual 241, 3) := by decide +kernel
theorem dX12_merge_403 : decode cX12_merge 403 = .ok (.iload_n 1, 1) := by decide +kernel
theorem dX12_merge_404 : decode cX12_merge 404 = .ok (.iload 4, 2) := by decide +kernel
theorem dX12_merge_406 : decode cX12_merge 406 = .ok (.invokevirtual 277, 3) := by decide +kernel
theorem dX12_merge_409 : decode cX12_merge 409 = .ok (.iinc 7 1, 3) := by decide +kernel
theorem dX12_merge_412 : decode cX12_merge 412 = .ok (.goto (-48), 3) := by decide +kernel
theorem dX12_merge_415 : decode cX12_merge 415 = .ok (.return_, 1) := by decide +kernel
theorem dX12_settle_0 : decode cX12_settle 0 = .ok (.aload_n 0, 1) := by decide +kernel
theorem dX12_settle_1 : decode cX12_settle 1 = .ok (.getfield 94, 3) := by decide +kernel
theorem dX12_settle_4 : decode cX12_settle 4 = .ok (.iload_n 1, 1) := by decide +kernel
theorem dX12_settle_5 : decode cX12_settle 5 = .ok (.iconst 0, 1) := by decide +kernel
theorem dX12_settle_6 : decode cX12_settle 6 = .ok (.iastore, 1) := by decide +kernel
theorem dX12_settle_7 : decode cX12_settle 7 = .ok (.aload_n 0, 1) := by decide +kernel
theorem dX12_settle_8 : decode cX12_settle 8 = .ok (.getfield 97, 3) := by decide +kernel
theorem dX12_settle_11 : decode cX12_settle 11 = .ok (.iload_n 1, 1) := by decide +kernel
theorem dX12_settle_12 : decode cX12_settle 12 = .ok (.aload_n 0, 1) := by decide +kernel
theorem dX12_settle_13 : decode cX12_settle 13 = .ok (.getfield 88, 3) := by decide +kernel
theorem dX12_settle_16 : decode cX12_settle 16 = .ok (.iload_n 1, 1) := by decide +kernel
theorem dX12_settle_17 : decode cX12_settle 17 = .ok (.iaload, 1) := by decide +kernel
theorem dX12_settle_18 : decode cX12_settle 18 = .ok (.iastore, 1) := by decide +kernel
theorem dX12_settle_19 : decode cX12_settle 19 = .ok (.aload_n 0, 1) := by decide +kernel
theorem dX12_settle_20 : decode cX12_settle 20 = .ok (.getfield 100, 3) := by decide +kernel
theorem dX12_settle_23 : decode cX12_settle 23 = .ok (.iload_n 1, 1) := by decide +kernel
theorem dX12_settle_24 : decode cX12_settle 24 = .ok (.aload_n 0, 1) := by decide +kernel
theorem dX12_settle_25 : decode cX12_settle 25 = .ok (.getfield 91, 3) := by decide +kernel
theorem dX12_settle_28 : decode cX12_settle 28 = .ok (.iload_n 1, 1) := by decide +kernel
theorem dX12_settle_29 : decode cX12_settle 29 = .ok (.iaload, 1) := by decide +kernel
theorem dX12_settle_30 : decode cX12_settle 30 = .ok (.iastore, 1) := by decide +kernel
theorem dX12_settle_31 : decode cX12_settle 31 = .ok (.aload_n 0, 1) := by decide +kernel
theorem dX12_settle_32 : decode cX12_settle 32 = .ok (.iload_n 1, 1) := by decide +kernel
theorem dX12_settle_33 : decode cX12_settle 33 = .ok (.invokevirtual 280, 3) := by decide +kernel
theorem dX12_settle_36 : decode cX12_settle 36 = .ok (.aload_n 0, 1) := by decide +kernel
theorem dX12_settle_37 : decode cX12_settle 37 = .ok (.getfield 112, 3) := by decide +kernel
theorem dX12_settle_40 : decode cX12_settle 40 = .ok (.iload_n 1, 1) := by decide +kernel
theorem dX12_settle_41 : decode cX12_settle 41 = .ok (.iconst 0, 1) := by decide +kernel
theorem dX12_settle_42 : decode cX12_settle 42 = .ok (.iastore, 1) := by decide +kernel
theorem dX12_settle_43 : decode cX12_settle 43 = .ok (.return_, 1) := by decide +kernel
theorem dX12_isBehind_0 : decode cX12_isBehind 0 = .ok (.iload_n 0, 1) := by decide +kernel
theorem dX12_isBehind_1 : decode cX12_isBehind 1 = .ok (.iload_n 2, 1) := by decide +kernel
theorem dX12_isBehind_2 : decode cX12_isBehind 2 = .ok (.if_icmp .lt 8, 3) := by decide +kernel
theorem dX12_isBehind_5 : decode cX12_isBehind 5 = .ok (.iload_n 1, 1) := by decide +kernel
theorem dX12_isBehind_6 : decode cX12_isBehind 6 = .ok (.iload_n 3, 1) := by decide +kernel
theorem dX12_isBehind_7 : decode cX12_isBehind 7 = .ok (.if_icmp .ge 17, 3) := by decide +kernel
theorem dX12_isBehind_10 : decode cX12_isBehind 10 = .ok (.iload_n 0, 1) := by decide +kernel
theorem dX12_isBehind_11 : decode cX12_isBehind 11 = .ok (.iload_n 2, 1) := by decide +kernel
theorem dX12_isBehind_12 : decode cX12_isBehind 12 = .ok (.if_icmp .gt 12, 3) := by decide +kernel
theorem dX12_isBehind_15 : decode cX12_isBehind 15 = .ok (.iload_n 1, 1) := by decide +kernel
theorem dX12_isBehind_16 : decode cX12_isBehind 16 = .ok (.iload_n 3, 1) := by decide +kernel
theorem dX12_isBehind_17 : decode cX12_isBehind 17 = .ok (.if_icmp .gt 7, 3) := by decide +kernel
theorem dX12_isBehind_20 : decode cX12_isBehind 20 = .ok (.iconst 1, 1) := by decide +kernel
theorem dX12_isBehind_21 : decode cX12_isBehind 21 = .ok (.goto 4, 3) := by decide +kernel
theorem dX12_isBehind_24 : decode cX12_isBehind 24 = .ok (.iconst 0, 1) := by decide +kernel
theorem dX12_isBehind_25 : decode cX12_isBehind 25 = .ok (.ireturn, 1) := by decide +kernel
theorem dX12_stamped_0 : decode cX12_stamped 0 = .ok (.iload_n 2, 1) := by decide +kernel
theorem dX12_stamped_1 : decode cX12_stamped 1 = .ok (.aload_n 0, 1) := by decide +kernel
theorem dX12_stamped_2 : decode cX12_stamped 2 = .ok (.getfield 91, 3) := by decide +kernel
theorem dX12_stamped_5 : decode cX12_stamped 5 = .ok (.iload_n 1, 1) := by decide +kernel
theorem dX12_stamped_6 : decode cX12_stamped 6 = .ok (.iaload, 1) := by decide +kernel
theorem dX12_stamped_7 : decode cX12_stamped 7 = .ok (.if_icmp .le 16, 3) := by decide +kernel
theorem dX12_stamped_10 : decode cX12_stamped 10 = .ok (.aload_n 0, 1) := by decide +kernel
theorem dX12_stamped_11 : decode cX12_stamped 11 = .ok (.iload_n 1, 1) := by decide +kernel
theorem dX12_stamped_12 : decode cX12_stamped 12 = .ok (.aload_n 0, 1) := by decide +kernel
theorem dX12_stamped_13 : decode cX12_stamped 13 = .ok (.getfield 88, 3) := by decide +kernel
theorem dX12_stamped_16 : decode cX12_stamped 16 = .ok (.iload_n 1, 1) := by decide +kernel
theorem dX12_stamped_17 : decode cX12_stamped 17 = .ok (.iaload, 1) := by decide +kernel
theorem dX12_stamped_18 : decode cX12_stamped 18 = .ok (.iload_n 2, 1) := by decide +kernel
theorem dX12_stamped_19 : decode cX12_stamped 19 = .ok (.invokevirtual 312, 3) := by decide +kernel
theorem dX12_stamped_22 : decode cX12_stamped 22 = .ok (.return_, 1) := by decide +kernel
theorem dX12_stamped_23 : decode cX12_stamped 23 = .ok (.iload_n 2, 1) := by decide +kernel
theorem dX12_stamped_24 : decode cX12_stamped 24 = .ok (.aload_n 0, 1) := by decide +kernel
theorem dX12_stamped_25 : decode cX12_stamped 25 = .ok (.getfield 91, 3) := by decide +kernel
theorem dX12_stamped_28 : decode cX12_stamped 28 = .ok (.iload_n 1, 1) := by decide +kernel
theorem dX12_stamped_29 : decode cX12_stamped 29 = .ok (.iaload, 1) := by decide +kernel
theorem dX12_stamped_30 : decode cX12_stamped 30 = .ok (.if_icmp .ne 51, 3) := by decide +kernel
theorem dX12_stamped_33 : decode cX12_stamped 33 = .ok (.aload_n 0, 1) := by decide +kernel
theorem dX12_stamped_34 : decode cX12_stamped 34 = .ok (.getfield 94, 3) := by decide +kernel
theorem dX12_stamped_37 : decode cX12_stamped 37 = .ok (.iload_n 1, 1) := by decide +kernel
theorem dX12_stamped_38 : decode cX12_stamped 38 = .ok (.iaload, 1) := by decide +kernel
theorem dX12_stamped_39 : decode cX12_stamped 39 = .ok (.iconst 2, 1) := by decide +kernel
theorem dX12_stamped_40 : decode cX12_stamped 40 = .ok (.if_icmp .eq 41, 3) := by decide +kernel
theorem dX12_stamped_43 : decode cX12_stamped 43 = .ok (.aload_n 0, 1) := by decide +kernel
theorem dX12_stamped_44 : decode cX12_stamped 44 = .ok (.getfield 106, 3) := by decide +kernel
theorem dX12_stamped_47 : decode cX12_stamped 47 = .ok (.iload_n 1, 1) := by decide +kernel
theorem dX12_stamped_48 : decode cX12_stamped 48 = .ok (.iaload, 1) := by decide +kernel
theorem dX12_stamped_49 : decode cX12_stamped 49 = .ok (.iload_n 3, 1) := by decide +kernel
theorem dX12_stamped_50 : decode cX12_stamped 50 = .ok (.iadd, 1) := by decide +kernel
theorem dX12_stamped_51 : decode cX12_stamped 51 = .ok (.aload_n 0, 1) := by decide +kernel
theorem dX12_stamped_52 : decode cX12_stamped 52 = .ok (.getfield 103, 3) := by decide +kernel
theorem dX12_stamped_55 : decode cX12_stamped 55 = .ok (.iload_n 1, 1) := by decide +kernel
theorem dX12_stamped_56 : decode cX12_stamped 56 = .ok (.iaload, 1) := by decide +kernel
theorem dX12_stamped_57 : decode cX12_stamped 57 = .ok (.if_icmp .le 24, 3) := by decide +kernel
theorem dX12_stamped_60 : decode cX12_stamped 60 = .ok (.aload_n 0, 1) := by decide +kernel
theorem dX12_stamped_61 : decode cX12_stamped 61 = .ok (.iload_n 1, 1) := by decide +kernel
theorem dX12_stamped_62 : decode cX12_stamped 62 = .ok (.iload_n 3, 1) := by decide +kernel
theorem dX12_stamped_63 : decode cX12_stamped 63 = .ok (.invokevirtual 252, 3) := by decide +kernel
theorem dX12_stamped_66 : decode cX12_stamped 66 = .ok (.iconst (-1), 1) := by decide +kernel
theorem dX12_stamped_67 : decode cX12_stamped 67 = .ok (.if_icmp .ne 14, 3) := by decide +kernel
theorem dX12_stamped_70 : decode cX12_stamped 70 = .ok (.aload_n 0, 1) := by decide +kernel
theorem dX12_stamped_71 : decode cX12_stamped 71 = .ok (.getfield 118, 3) := by decide +kernel
theorem dX12_stamped_74 : decode cX12_stamped 74 = .ok (.iload_n 1, 1) := by decide +kernel
theorem dX12_stamped_75 : decode cX12_stamped 75 = .ok (.iaload, 1) := by decide +kernel
theorem dX12_stamped_76 : decode cX12_stamped 76 = .ok (.bipush 8, 2) := by decide +kernel
theorem dX12_stamped_78 : decode cX12_stamped 78 = .ok (.if_icmp .lt 4, 3) := by decide +kernel
theorem dX12_stamped_81 : decode cX12_stamped 81 = .ok (.return_, 1) := by decide +kernel
theorem dX12_stamped_82 : decode cX12_stamped 82 = .ok (.aload_n 0, 1) := by decide +kernel
theorem dX12_stamped_83 : decode cX12_stamped 83 = .ok (.iload_n 1, 1) := by decide +kernel
theorem dX12_stamped_84 : decode cX12_stamped 84 = .ok (.iload_n 3, 1) := by decide +kernel
theorem dX12_stamped_85 : decode cX12_stamped 85 = .ok (.iload 4, 2) := by decide +kernel
theorem dX12_stamped_87 : decode cX12_stamped 87 = .ok (.invokevirtual 315, 3) := by decide +kernel
theorem dX12_stamped_90 : decode cX12_stamped 90 = .ok (.aload_n 0, 1) := by decide +kernel
theorem dX12_stamped_91 : decode cX12_stamped 91 = .ok (.getfield 94, 3) := by decide +kernel
theorem dX12_stamped_94 : decode cX12_stamped 94 = .ok (.iload_n 1, 1) := by decide +kernel
theorem dX12_stamped_95 : decode cX12_stamped 95 = .ok (.iaload, 1) := by decide +kernel
theorem dX12_stamped_96 : decode cX12_stamped 96 = .ok (.ifCond .ne 8, 3) := by decide +kernel
theorem dX12_stamped_99 : decode cX12_stamped 99 = .ok (.aload_n 0, 1) := by decide +kernel
theorem dX12_stamped_100 : decode cX12_stamped 100 = .ok (.iload_n 1, 1) := by decide +kernel
theorem dX12_stamped_101 : decode cX12_stamped 101 = .ok (.invokevirtual 318, 3) := by decide +kernel
theorem dX12_stamped_104 : decode cX12_stamped 104 = .ok (.return_, 1) := by decide +kernel
theorem dX12_lookup_0 : decode cX12_lookup 0 = .ok (.aload_n 0, 1) := by decide +kernel
theorem dX12_lookup_1 : decode cX12_lookup 1 = .ok (.iload_n 1, 1) := by decide +kernel
theorem dX12_lookup_2 : decode cX12_lookup 2 = .ok (.invokevirtual 248, 3) := by decide +kernel
theorem dX12_lookup_5 : decode cX12_lookup 5 = .ok (.ifCond .eq 28, 3) := by decide +kernel
theorem dX12_lookup_8 : decode cX12_lookup 8 = .ok (.aload_n 0, 1) := by decide +kernel
theorem dX12_lookup_9 : decode cX12_lookup 9 = .ok (.getfield 94, 3) := by decide +kernel
theorem dX12_lookup_12 : decode cX12_lookup 12 = .ok (.iload_n 1, 1) := by decide +kernel
theorem dX12_lookup_13 : decode cX12_lookup 13 = .ok (.iaload, 1) := by decide +kernel
theorem dX12_lookup_14 : decode cX12_lookup 14 = .ok (.iconst 2, 1) := by decide +kernel
theorem dX12_lookup_15 : decode cX12_lookup 15 = .ok (.if_icmp .eq 18, 3) := by decide +kernel
theorem dX12_lookup_18 : decode cX12_lookup 18 = .ok (.iload_n 3, 1) := by decide +kernel
theorem dX12_lookup_19 : decode cX12_lookup 19 = .ok (.iconst 1, 1) := by decide +kernel
theorem dX12_lookup_20 : decode cX12_lookup 20 = .ok (.if_icmp .lt 13, 3) := by decide +kernel
theorem dX12_lookup_23 : decode cX12_lookup 23 = .ok (.iload_n 3, 1) := by decide +kernel
theorem dX12_lookup_24 : decode cX12_lookup 24 = .ok (.aload_n 0, 1) := by decide +kernel
theorem dX12_lookup_25 : decode cX12_lookup 25 = .ok (.getfield 103, 3) := by decide +kernel
theorem dX12_lookup_28 : decode cX12_lookup 28 = .ok (.iload_n 1, 1) := by decide +kernel
theorem dX12_lookup_29 : decode cX12_lookup 29 = .ok (.iaload, 1) := by decide +kernel
theorem dX12_lookup_30 : decode cX12_lookup 30 = .ok (.if_icmp .le 4, 3) := by decide +kernel
theorem dX12_lookup_33 : decode cX12_lookup 33 = .ok (.return_, 1) := by decide +kernel
theorem dX12_lookup_34 : decode cX12_lookup 34 = .ok (.aload_n 0, 1) := by decide +kernel
theorem dX12_lookup_35 : decode cX12_lookup 35 = .ok (.getfield 115, 3) := by decide +kernel
theorem dX12_lookup_38 : decode cX12_lookup 38 = .ok (.bipush 100, 2) := by decide +kernel
theorem dX12_lookup_40 : decode cX12_lookup 40 = .ok (.iload_n 1, 1) := by decide +kernel
theorem dX12_lookup_41 : decode cX12_lookup 41 = .ok (.imul, 1) := by decide +kernel
theorem dX12_lookup_42 : decode cX12_lookup 42 = .ok (.iload_n 3, 1) := by decide +kernel
theorem dX12_lookup_43 : decode cX12_lookup 43 = .ok (.iadd, 1) := by decide +kernel
theorem dX12_lookup_44 : decode cX12_lookup 44 = .ok (.iconst 1, 1) := by decide +kernel
theorem dX12_lookup_45 : decode cX12_lookup 45 = .ok (.isub, 1) := by decide +kernel
theorem dX12_lookup_46 : decode cX12_lookup 46 = .ok (.iaload, 1) := by decide +kernel
theorem dX12_lookup_47 : decode cX12_lookup 47 = .ok (.istore 4, 2) := by decide +kernel
theorem dX12_lookup_49 : decode cX12_lookup 49 = .ok (.aload_n 0, 1) := by decide +kernel
theorem dX12_lookup_50 : decode cX12_lookup 50 = .ok (.iload 4, 2) := by decide +kernel
theorem dX12_lookup_52 : decode cX12_lookup 52 = .ok (.ifCond .ne 7, 3) := by decide +kernel
theorem dX12_lookup_55 : decode cX12_lookup 55 = .ok (.iconst 3, 1) := by decide +kernel
theorem dX12_lookup_56 : decode cX12_lookup 56 = .ok (.goto 4, 3) := by decide +kernel
theorem dX12_lookup_59 : decode cX12_lookup 59 = .ok (.iconst 2, 1) := by decide +kernel
theorem dX12_lookup_60 : decode cX12_lookup 60 = .ok (.iload_n 1, 1) := by decide +kernel
theorem dX12_lookup_61 : decode cX12_lookup 61 = .ok (.iload_n 2, 1) := by decide +kernel
theorem dX12_lookup_62 : decode cX12_lookup 62 = .ok (.aload_n 0, 1) := by decide +kernel
theorem dX12_lookup_63 : decode cX12_lookup 63 = .ok (.getfield 88, 3) := by decide +kernel
theorem dX12_lookup_66 : decode cX12_lookup 66 = .ok (.iload_n 1, 1) := by decide +kernel
theorem dX12_lookup_67 : decode cX12_lookup 67 = .ok (.iaload, 1) := by decide +kernel
theorem dX12_lookup_68 : decode cX12_lookup 68 = .ok (.aload_n 0, 1) := by decide +kernel
theorem dX12_lookup_69 : decode cX12_lookup 69 = .ok (.getfield 91, 3) := by decide +kernel
theorem dX12_lookup_72 : decode cX12_lookup 72 = .ok (.iload_n 1, 1) := by decide +kernel
theorem dX12_lookup_73 : decode cX12_lookup 73 = .ok (.iaload, 1) := by decide +kernel
theorem dX12_lookup_74 : decode cX12_lookup 74 = .ok (.iload_n 3, 1) := by decide +kernel
theorem dX12_lookup_75 : decode cX12_lookup 75 = .ok (.iload 4, 2) := by decide +kernel
theorem dX12_lookup_77 : decode cX12_lookup 77 = .ok (.invokevirtual 241, 3) := by decide +kernel
theorem dX12_lookup_80 : decode cX12_lookup 80 = .ok (.pop, 1) := by decide +kernel
theorem dX12_lookup_81 : decode cX12_lookup 81 = .ok (.return_, 1) := by decide +kernel
theorem dX12_gapCommit_0 : decode cX12_gapCommit 0 = .ok (.aload_n 0, 1) := by decide +kernel
theorem dX12_gapCommit_1 : decode cX12_gapCommit 1 = .ok (.iload_n 1, 1) := by decide +kernel
theorem dX12_gapCommit_2 : decode cX12_gapCommit 2 = .ok (.invokevirtual 248, 3) := by decide +kernel
theorem dX12_gapCommit_5 : decode cX12_gapCommit 5 = .ok (.ifCond .ne 47, 3) := by decide +kernel
theorem dX12_gapCommit_8 : decode cX12_gapCommit 8 = .ok (.aload_n 0, 1) := by decide +kernel
theorem dX12_gapCommit_9 : decode cX12_gapCommit 9 = .ok (.getfield 94, 3) := by decide +kernel
theorem dX12_gapCommit_12 : decode cX12_gapCommit 12 = .ok (.iload_n 1, 1) := by decide +kernel
theorem dX12_gapCommit_13 : decode cX12_gapCommit 13 = .ok (.iaload, 1) := by decide +kernel
theorem dX12_gapCommit_14 : decode cX12_gapCommit 14 = .ok (.ifCond .ne 38, 3) := by decide +kernel
theorem dX12_gapCommit_17 : decode cX12_gapCommit 17 = .ok (.iload_n 3, 1) := by decide +kernel
theorem dX12_gapCommit_18 : decode cX12_gapCommit 18 = .ok (.aload_n 0, 1) := by decide +kernel
theorem dX12_gapCommit_19 : decode cX12_gapCommit 19 = .ok (.getfield 103, 3) := by decide +kernel
theorem dX12_gapCommit_22 : decode cX12_gapCommit 22 = .ok (.iload_n 1, 1) := by decide +kernel
theorem dX12_gapCommit_23 : decode cX12_gapCommit 23 = .ok (.iaload, 1) := by decide +kernel
theorem dX12_gapCommit_24 : decode cX12_gapCommit 24 = .ok (.iconst 1, 1) := by decide +kernel
theorem dX12_gapCommit_25 : decode cX12_gapCommit 25 = .ok (.iadd, 1) := by decide +kernel
theorem dX12_gapCommit_26 : decode cX12_gapCommit 26 = .ok (.if_icmp .gt 26, 3) := by decide +kernel
theorem dX12_gapCommit_29 : decode cX12_gapCommit 29 = .ok (.iload_n 3, 1) := by decide +kernel
theorem dX12_gapCommit_30 : decode cX12_gapCommit 30 = .ok (.aload_n 0, 1) := by decide +kernel
theorem dX12_gapCommit_31 : decode cX12_gapCommit 31 = .ok (.getfield 103, 3) := by decide +kernel
theorem dX12_gapCommit_34 : decode cX12_gapCommit 34 = .ok (.iload_n 1, 1) := by decide +kernel
theorem dX12_gapCommit_35 : decode cX12_gapCommit 35 = .ok (.iaload, 1) := by decide +kernel
theorem dX12_gapCommit_36 : decode cX12_gapCommit 36 = .ok (.iconst 1, 1) := by decide +kernel
theorem dX12_gapCommit_37 : decode cX12_gapCommit 37 = .ok (.iadd, 1) := by decide +kernel
theorem dX12_gapCommit_38 : decode cX12_gapCommit 38 = .ok (.if_icmp .ne 15, 3) := by decide +kernel
theorem dX12_gapCommit_41 : decode cX12_gapCommit 41 = .ok (.aload_n 0, 1) := by decide +kernel
theorem dX12_gapCommit_42 : decode cX12_gapCommit 42 = .ok (.getfield 103, 3) := by decide +kernel
theorem dX12_gapCommit_45 : decode cX12_gapCommit 45 = .ok (.iload_n 1, 1) := by decide +kernel
theorem dX12_gapCommit_46 : decode cX12_gapCommit 46 = .ok (.iaload, 1) := by decide +kernel
theorem dX12_gapCommit_47 : decode cX12_gapCommit 47 = .ok (.bipush 100, 2) := by decide +kernel
theorem dX12_gapCommit_49 : decode cX12_gapCommit 49 = .ok (.if_icmp .ne 4, 3) := by decide +kernel
theorem dX12_gapCommit_52 : decode cX12_gapCommit 52 = .ok (.return_, 1) := by decide +kernel
theorem dX12_gapCommit_53 : decode cX12_gapCommit 53 = .ok (.iload_n 3, 1) := by decide +kernel
theorem dX12_gapCommit_54 : decode cX12_gapCommit 54 = .ok (.aload_n 0, 1) := by decide +kernel
theorem dX12_gapCommit_55 : decode cX12_gapCommit 55 = .ok (.getfield 103, 3) := by decide +kernel
theorem dX12_gapCommit_58 : decode cX12_gapCommit 58 = .ok (.iload_n 1, 1) := by decide +kernel
theorem dX12_gapCommit_59 : decode cX12_gapCommit 59 = .ok (.iaload, 1) := by decide +kernel
theorem dX12_gapCommit_60 : decode cX12_gapCommit 60 = .ok (.iconst 1, 1) := by decide +kernel
theorem dX12_gapCommit_61 : decode cX12_gapCommit 61 = .ok (.iadd, 1) := by decide +kernel
theorem dX12_gapCommit_62 : decode cX12_gapCommit 62 = .ok (.if_icmp .ne 7, 3) := by decide +kernel
theorem dX12_gapCommit_65 : decode cX12_gapCommit 65 = .ok (.iconst 1, 1) := by decide +kernel
theorem dX12_gapCommit_66 : decode cX12_gapCommit 66 = .ok (.goto 4, 3) := by decide +kernel
theorem dX12_gapCommit_69 : decode cX12_gapCommit 69 = .ok (.iconst 0, 1) := by decide +kernel
theorem dX12_gapCommit_70 : decode cX12_gapCommit 70 = .ok (.istore 4, 2) := by decide +kernel
theorem dX12_gapCommit_72 : decode cX12_gapCommit 72 = .ok (.iload 4, 2) := by decide +kernel
theorem dX12_gapCommit_74 : decode cX12_gapCommit 74 = .ok (.ifCond .eq 25, 3) := by decide +kernel
theorem dX12_gapCommit_77 : decode cX12_gapCommit 77 = .ok (.aload_n 0, 1) := by decide +kernel
theorem dX12_gapCommit_78 : decode cX12_gapCommit 78 = .ok (.iload_n 1, 1) := by decide +kernel
theorem dX12_gapCommit_79 : decode cX12_gapCommit 79 = .ok (.iconst 0, 1) := by decide +kernel
theorem dX12_gapCommit_80 : decode cX12_gapCommit 80 = .ok (.invokevirtual 263, 3) := by decide +kernel
theorem dX12_gapCommit_83 : decode cX12_gapCommit 83 = .ok (.aload_n 0, 1) := by decide +kernel
theorem dX12_gapCommit_84 : decode cX12_gapCommit 84 = .ok (.iload_n 1, 1) := by decide +kernel
theorem dX12_gapCommit_85 : decode cX12_gapCommit 85 = .ok (.iload_n 3, 1) := by decide +kernel
theorem dX12_gapCommit_86 : decode cX12_gapCommit 86 = .ok (.aload_n 0, 1) := by decide +kernel
theorem dX12_gapCommit_87 : decode cX12_gapCommit 87 = .ok (.getfield 106, 3) := by decide +kernel
theorem dX12_gapCommit_90 : decode cX12_gapCommit 90 = .ok (.iload_n 1, 1) := by decide +kernel
theorem dX12_gapCommit_91 : decode cX12_gapCommit 91 = .ok (.iaload, 1) := by decide +kernel
theorem dX12_gapCommit_92 : decode cX12_gapCommit 92 = .ok (.isub, 1) := by decide +kernel
theorem dX12_gapCommit_93 : decode cX12_gapCommit 93 = .ok (.invokevirtual 260, 3) := by decide +kernel
theorem dX12_gapCommit_96 : decode cX12_gapCommit 96 = .ok (.goto 17, 3) := by decide +kernel
theorem dX12_gapCommit_99 : decode cX12_gapCommit 99 = .ok (.aload_n 0, 1) := by decide +kernel
theorem dX12_gapCommit_100 : decode cX12_gapCommit 100 = .ok (.getfield 115, 3) := by decide +kernel
theorem dX12_gapCommit_103 : decode cX12_gapCommit 103 = .ok (.bipush 100, 2) := by decide +kernel
theorem dX12_gapCommit_105 : decode cX12_gapCommit 105 = .ok (.iload_n 1, 1) := by decide +kernel
theorem dX12_gapCommit_106 : decode cX12_gapCommit 106 = .ok (.imul, 1) := by decide +kernel
theorem dX12_gapCommit_107 : decode cX12_gapCommit 107 = .ok (.iload_n 3, 1) := by decide +kernel
theorem dX12_gapCommit_108 : decode cX12_gapCommit 108 = .ok (.iadd, 1) := by decide +kernel
theorem dX12_gapCommit_109 : decode cX12_gapCommit 109 = .ok (.iconst 1, 1) := by decide +kernel
theorem dX12_gapCommit_110 : decode cX12_gapCommit 110 = .ok (.isub, 1) := by decide +kernel
theorem dX12_gapCommit_111 : decode cX12_gapCommit 111 = .ok (.iconst 0, 1) := by decide +kernel
theorem dX12_gapCommit_112 : decode cX12_gapCommit 112 = .ok (.iastore, 1) := by decide +kernel
theorem dX12_gapCommit_113 : decode cX12_gapCommit 113 = .ok (.aload_n 0, 1) := by decide +kernel
theorem dX12_gapCommit_114 : decode cX12_gapCommit 114 = .ok (.iconst 4, 1) := by decide +kernel
theorem dX12_gapCommit_115 : decode cX12_gapCommit 115 = .ok (.iload_n 1, 1) := by decide +kernel
theorem dX12_gapCommit_116 : decode cX12_gapCommit 116 = .ok (.aload_n 0, 1) := by decide +kernel
theorem dX12_gapCommit_117 : decode cX12_gapCommit 117 = .ok (.iload_n 1, 1) := by decide +kernel
theorem dX12_gapCommit_118 : decode cX12_gapCommit 118 = .ok (.invokevirtual 269, 3) := by decide +kernel
theorem dX12_gapCommit_121 : decode cX12_gapCommit 121 = .ok (.aload_n 0, 1) := by decide +kernel
theorem dX12_gapCommit_122 : decode cX12_gapCommit 122 = .ok (.getfield 88, 3) := by decide +kernel
theorem dX12_gapCommit_125 : decode cX12_gapCommit 125 = .ok (.iload_n 1, 1) := by decide +kernel
theorem dX12_gapCommit_126 : decode cX12_gapCommit 126 = .ok (.iaload, 1) := by decide +kernel
theorem dX12_gapCommit_127 : decode cX12_gapCommit 127 = .ok (.aload_n 0, 1) := by decide +kernel
theorem dX12_gapCommit_128 : decode cX12_gapCommit 128 = .ok (.getfield 91, 3) := by decide +kernel
theorem dX12_gapCommit_131 : decode cX12_gapCommit 131 = .ok (.iload_n 1, 1) := by decide +kernel
theorem dX12_gapCommit_132 : decode cX12_gapCommit 132 = .ok (.iaload, 1) := by decide +kernel
theorem dX12_gapCommit_133 : decode cX12_gapCommit 133 = .ok (.iload_n 3, 1) := by decide +kernel
theorem dX12_gapCommit_134 : decode cX12_gapCommit 134 = .ok (.iconst 0, 1) := by decide +kernel
theorem dX12_gapCommit_135 : decode cX12_gapCommit 135 = .ok (.invokevirtual 241, 3) := by decide +kernel
theorem dX12_gapCommit_138 : decode cX12_gapCommit 138 = .ok (.pop, 1) := by decide +kernel
theorem dX12_gapCommit_139 : decode cX12_gapCommit 139 = .ok (.iload 4, 2) := by decide +kernel
theorem dX12_gapCommit_141 : decode cX12_gapCommit 141 = .ok (.ifCond .eq 8, 3) := by decide +kernel
theorem dX12_gapCommit_144 : decode cX12_gapCommit 144 = .ok (.aload_n 0, 1) := by decide +kernel
theorem dX12_gapCommit_145 : decode cX12_gapCommit 145 = .ok (.iload_n 1, 1) := by decide +kernel
theorem dX12_gapCommit_146 : decode cX12_gapCommit 146 = .ok (.invokevirtual 318, 3) := by decide +kernel
theorem dX12_gapCommit_149 : decode cX12_gapCommit 149 = .ok (.return_, 1) := by decide +kernel
theorem dX12_gapReply_0 : decode cX12_gapReply 0 = .ok (.aload_n 0, 1) := by decide +kernel
theorem dX12_gapReply_1 : decode cX12_gapReply 1 = .ok (.iload_n 1, 1) := by decide +kernel
theorem dX12_gapReply_2 : decode cX12_gapReply 2 = .ok (.invokevirtual 248, 3) := by decide +kernel
theorem dX12_gapReply_5 : decode cX12_gapReply 5 = .ok (.ifCond .eq 23, 3) := by decide +kernel
theorem dX12_gapReply_8 : decode cX12_gapReply 8 = .ok (.aload_n 0, 1) := by decide +kernel
theorem dX12_gapReply_9 : decode cX12_gapReply 9 = .ok (.getfield 94, 3) := by decide +kernel
theorem dX12_gapReply_12 : decode cX12_gapReply 12 = .ok (.iload_n 1, 1) := by decide +kernel
theorem dX12_gapReply_13 : decode cX12_gapReply 13 = .ok (.iaload, 1) := by decide +kernel
theorem dX12_gapReply_14 : decode cX12_gapReply 14 = .ok (.iconst 1, 1) := by decide +kernel
theorem dX12_gapReply_15 : decode cX12_gapReply 15 = .ok (.if_icmp .ne 13, 3) := by decide +kernel
theorem dX12_gapReply_18 : decode cX12_gapReply 18 = .ok (.iload_n 3, 1) := by decide +kernel
theorem dX12_gapReply_19 : decode cX12_gapReply 19 = .ok (.aload_n 0, 1) := by decide +kernel
theorem dX12_gapReply_20 : decode cX12_gapReply 20 = .ok (.getfield 103, 3) := by decide +kernel
theorem dX12_gapReply_23 : decode cX12_gapReply 23 = .ok (.iload_n 1, 1) := by decide +kernel
theorem dX12_gapReply_24 : decode cX12_gapReply 24 = .ok (.iaload, 1) := by decide +kernel
theorem dX12_gapReply_25 : decode cX12_gapReply 25 = .ok (.if_icmp .eq 4, 3) := by decide +kernel
theorem dX12_gapReply_28 : decode cX12_gapReply 28 = .ok (.return_, 1) := by decide +kernel
theorem dX12_gapReply_29 : decode cX12_gapReply 29 = .ok (.aload_n 0, 1) := by decide +kernel
theorem dX12_gapReply_30 : decode cX12_gapReply 30 = .ok (.getfield 127, 3) := by decide +kernel
theorem dX12_gapReply_33 : decode cX12_gapReply 33 = .ok (.iload_n 1, 1) := by decide +kernel
theorem dX12_gapReply_34 : decode cX12_gapReply 34 = .ok (.dup2, 1) := by decide +kernel
theorem dX12_gapReply_35 : decode cX12_gapReply 35 = .ok (.iaload, 1) := by decide +kernel
theorem dX12_gapReply_36 : decode cX12_gapReply 36 = .ok (.iconst 1, 1) := by decide +kernel
theorem dX12_gapReply_37 : decode cX12_gapReply 37 = .ok (.iload_n 2, 1) := by decide +kernel
theorem dX12_gapReply_38 : decode cX12_gapReply 38 = .ok (.ishl, 1) := by decide +kernel
theorem dX12_gapReply_39 : decode cX12_gapReply 39 = .ok (.ior, 1) := by decide +kernel
theorem dX12_gapReply_40 : decode cX12_gapReply 40 = .ok (.iastore, 1) := by decide +kernel
theorem dX12_gapReply_41 : decode cX12_gapReply 41 = .ok (.aload_n 0, 1) := by decide +kernel
theorem dX12_gapReply_42 : decode cX12_gapReply 42 = .ok (.getfield 127, 3) := by decide +kernel
theorem dX12_gapReply_45 : decode cX12_gapReply 45 = .ok (.iload_n 1, 1) := by decide +kernel
theorem dX12_gapReply_46 : decode cX12_gapReply 46 = .ok (.iaload, 1) := by decide +kernel
theorem dX12_gapReply_47 : decode cX12_gapReply 47 = .ok (.invokestatic 302, 3) := by decide +kernel
theorem dX12_gapReply_50 : decode cX12_gapReply 50 = .ok (.aload_n 0, 1) := by decide +kernel
theorem dX12_gapReply_51 : decode cX12_gapReply 51 = .ok (.getfield 226, 3) := by decide +kernel
theorem dX12_gapReply_54 : decode cX12_gapReply 54 = .ok (.if_icmp .ge 4, 3) := by decide +kernel
theorem dX12_gapReply_57 : decode cX12_gapReply 57 = .ok (.return_, 1) := by decide +kernel
theorem dX12_gapReply_58 : decode cX12_gapReply 58 = .ok (.aload_n 0, 1) := by decide +kernel
theorem dX12_gapReply_59 : decode cX12_gapReply 59 = .ok (.getfield 94, 3) := by decide +kernel
theorem dX12_gapReply_62 : decode cX12_gapReply 62 = .ok (.iload_n 1, 1) := by decide +kernel
theorem dX12_gapReply_63 : decode cX12_gapReply 63 = .ok (.iconst 0, 1) := by decide +kernel
theorem dX12_gapReply_64 : decode cX12_gapReply 64 = .ok (.iastore, 1) := by decide +kernel
theorem dX12_gapReply_65 : decode cX12_gapReply 65 = .ok (.aload_n 0, 1) := by decide +kernel
theorem dX12_gapReply_66 : decode cX12_gapReply 66 = .ok (.iload_n 1, 1) := by decide +kernel
theorem dX12_gapReply_67 : decode cX12_gapReply 67 = .ok (.invokevirtual 318, 3) := by decide +kernel
theorem dX12_gapReply_70 : decode cX12_gapReply 70 = .ok (.return_, 1) := by decide +kernel
theorem dX12_sync_0 : decode cX12_sync 0 = .ok (.aload_n 0, 1) := by decide +kernel
theorem dX12_sync_1 : decode cX12_sync 1 = .ok (.iload_n 1, 1) := by decide +kernel
theorem dX12_sync_2 : decode cX12_sync 2 = .ok (.invokevirtual 248, 3) := by decide +kernel
theorem dX12_sync_5 : decode cX12_sync 5 = .ok (.ifCond .ne 22, 3) := by decide +kernel
theorem dX12_sync_8 : decode cX12_sync 8 = .ok (.aload_n 0, 1) := by decide +kernel
theorem dX12_sync_9 : decode cX12_sync 9 = .ok (.getfield 94, 3) := by decide +kernel
theorem dX12_sync_12 : decode cX12_sync 12 = .ok (.iload_n 1, 1) := by decide +kernel
theorem dX12_sync_13 : decode cX12_sync 13 = .ok (.iaload, 1) := by decide +kernel
theorem dX12_sync_14 : decode cX12_sync 14 = .ok (.ifCond .ne 13, 3) := by decide +kernel
theorem dX12_sync_17 : decode cX12_sync 17 = .ok (.aload_n 0, 1) := by decide +kernel
theorem dX12_sync_18 : decode cX12_sync 18 = .ok (.getfield 103, 3) := by decide +kernel
theorem dX12_sync_21 : decode cX12_sync 21 = .ok (.iload_n 1, 1) := by decide +kernel
theorem dX12_sync_22 : decode cX12_sync 22 = .ok (.iaload, 1) := by decide +kernel
theorem dX12_sync_23 : decode cX12_sync 23 = .ok (.iload_n 2, 1) := by decide +kernel
theorem dX12_sync_24 : decode cX12_sync 24 = .ok (.if_icmp .ge 4, 3) := by decide +kernel
theorem dX12_sync_27 : decode cX12_sync 27 = .ok (.return_, 1) := by decide +kernel
theorem dX12_sync_28 : decode cX12_sync 28 = .ok (.iconst 0, 1) := by decide +kernel
theorem dX12_sync_29 : decode cX12_sync 29 = .ok (.istore_n 3, 1) := by decide +kernel
theorem dX12_sync_30 : decode cX12_sync 30 = .ok (.iload_n 3, 1) := by decide +kernel
theorem dX12_sync_31 : decode cX12_sync 31 = .ok (.iload_n 2, 1) := by decide +kernel
theorem dX12_sync_32 : decode cX12_sync 32 = .ok (.if_icmp .ge 26, 3) := by decide +kernel
theorem dX12_sync_35 : decode cX12_sync 35 = .ok (.aload_n 0, 1) := by decide +kernel
theorem dX12_sync_36 : decode cX12_sync 36 = .ok (.getfield 115, 3) := by decide +kernel
theorem dX12_sync_39 : decode cX12_sync 39 = .ok (.bipush 100, 2) := by decide +kernel
theorem dX12_sync_41 : decode cX12_sync 41 = .ok (.iload_n 1, 1) := by decide +kernel
theorem dX12_sync_42 : decode cX12_sync 42 = .ok (.imul, 1) := by decide +kernel
theorem dX12_sync_43 : decode cX12_sync 43 = .ok (.iload_n 3, 1) := by decide +kernel
theorem dX12_sync_44 : decode cX12_sync 44 = .ok (.iadd, 1) := by decide +kernel
theorem dX12_sync_45 : decode cX12_sync 45 = .ok (.aload_n 0, 1) := by decide +kernel
theorem dX12_sync_46 : decode cX12_sync 46 = .ok (.getfield 157, 3) := by decide +kernel
theorem dX12_sync_49 : decode cX12_sync 49 = .ok (.iload_n 3, 1) := by decide +kernel
theorem dX12_sync_50 : decode cX12_sync 50 = .ok (.iaload, 1) := by decide +kernel
theorem dX12_sync_51 : decode cX12_sync 51 = .ok (.iastore, 1) := by decide +kernel
theorem dX12_sync_52 : decode cX12_sync 52 = .ok (.iinc 3 1, 3) := by decide +kernel
theorem dX12_sync_55 : decode cX12_sync 55 = .ok (.goto (-25), 3) := by decide +kernel
theorem dX12_sync_58 : decode cX12_sync 58 = .ok (.aload_n 0, 1) := by decide +kernel
theorem dX12_sync_59 : decode cX12_sync 59 = .ok (.getfield 112, 3) := by decide +kernel
theorem dX12_sync_62 : decode cX12_sync 62 = .ok (.iload_n 1, 1) := by decide +kernel
theorem dX12_sync_63 : decode cX12_sync 63 = .ok (.iload_n 2, 1) := by decide +kernel
theorem dX12_sync_64 : decode cX12_sync 64 = .ok (.aload_n 0, 1) := by decide +kernel
theorem dX12_sync_65 : decode cX12_sync 65 = .ok (.getfield 112, 3) := by decide +kernel
theorem dX12_sync_68 : decode cX12_sync 68 = .ok (.iload_n 1, 1) := by decide +kernel
theorem dX12_sync_69 : decode cX12_sync 69 = .ok (.iaload, 1) := by decide +kernel
theorem dX12_sync_70 : decode cX12_sync 70 = .ok (.if_icmp .le 7, 3) := by decide +kernel
theorem dX12_sync_73 : decode cX12_sync 73 = .ok (.iload_n 2, 1) := by decide +kernel
theorem dX12_sync_74 : decode cX12_sync 74 = .ok (.goto 9, 3) := by decide +kernel
theorem dX12_sync_77 : decode cX12_sync 77 = .ok (.aload_n 0, 1) := by decide +kernel
theorem dX12_sync_78 : decode cX12_sync 78 = .ok (.getfield 112, 3) := by decide +kernel
theorem dX12_sync_81 : decode cX12_sync 81 = .ok (.iload_n 1, 1) := by decide +kernel
theorem dX12_sync_82 : decode cX12_sync 82 = .ok (.iaload, 1) := by decide +kernel
theorem dX12_sync_83 : decode cX12_sync 83 = .ok (.iastore, 1) := by decide +kernel
theorem dX12_sync_84 : decode cX12_sync 84 = .ok (.aload_n 0, 1) := by decide +kernel
theorem dX12_sync_85 : decode cX12_sync 85 = .ok (.bipush 6, 2) := by decide +kernel
theorem dX12_sync_87 : decode cX12_sync 87 = .ok (.iload_n 1, 1) := by decide +kernel
theorem dX12_sync_88 : decode cX12_sync 88 = .ok (.aload_n 0, 1) := by decide +kernel
theorem dX12_sync_89 : decode cX12_sync 89 = .ok (.iload_n 1, 1) := by decide +kernel
theorem dX12_sync_90 : decode cX12_sync 90 = .ok (.invokevirtual 269, 3) := by decide +kernel
theorem dX12_sync_93 : decode cX12_sync 93 = .ok (.aload_n 0, 1) := by decide +kernel
theorem dX12_sync_94 : decode cX12_sync 94 = .ok (.getfield 88, 3) := by decide +kernel
theorem dX12_sync_97 : decode cX12_sync 97 = .ok (.iload_n 1, 1) := by decide +kernel
theorem dX12_sync_98 : decode cX12_sync 98 = .ok (.iaload, 1) := by decide +kernel
theorem dX12_sync_99 : decode cX12_sync 99 = .ok (.aload_n 0, 1) := by decide +kernel
theorem dX12_sync_100 : decode cX12_sync 100 = .ok (.getfield 91, 3) := by decide +kernel
theorem dX12_sync_103 : decode cX12_sync 103 = .ok (.iload_n 1, 1) := by decide +kernel
theorem dX12_sync_104 : decode cX12_sync 104 = .ok (.iaload, 1) := by decide +kernel
theorem dX12_sync_105 : decode cX12_sync 105 = .ok (.iload_n 2, 1) := by decide +kernel
theorem dX12_sync_106 : decode cX12_sync 106 = .ok (.iconst 0, 1) := by decide +kernel
theorem dX12_sync_107 : decode cX12_sync 107 = .ok (.invokevirtual 241, 3) := by decide +kernel
theorem dX12_sync_110 : decode cX12_sync 110 = .ok (.pop, 1) := by decide +kernel
theorem dX12_sync_111 : decode cX12_sync 111 = .ok (.return_, 1) := by decide +kernel
theorem dX12_syncReply_0 : decode cX12_syncReply 0 = .ok (.aload_n 0, 1) := by decide +kernel
theorem dX12_syncReply_1 : decode cX12_syncReply 1 = .ok (.iload_n 1, 1) := by decide +kernel
theorem dX12_syncReply_2 : decode cX12_syncReply 2 = .ok (.invokevirtual 248, 3) := by decide +kernel
theorem dX12_syncReply_5 : decode cX12_syncReply 5 = .ok (.ifCond .eq 23, 3) := by decide +kernel
theorem dX12_syncReply_8 : decode cX12_syncReply 8 = .ok (.aload_n 0, 1) := by decide +kernel
theorem dX12_syncReply_9 : decode cX12_syncReply 9 = .ok (.getfield 94, 3) := by decide +kernel
theorem dX12_syncReply_12 : decode cX12_syncReply 12 = .ok (.iload_n 1, 1) := by decide +kernel
theorem dX12_syncReply_13 : decode cX12_syncReply 13 = .ok (.iaload, 1) := by decide +kernel
theorem dX12_syncReply_14 : decode cX12_syncReply 14 = .ok (.iconst 2, 1) := by decide +kernel
theorem dX12_syncReply_15 : decode cX12_syncReply 15 = .ok (.if_icmp .eq 13, 3) := by decide +kernel
theorem dX12_syncReply_18 : decode cX12_syncReply 18 = .ok (.iload_n 3, 1) := by decide +kernel
theorem dX12_syncReply_19 : decode cX12_syncReply 19 = .ok (.aload_n 0, 1) := by decide +kernel
theorem dX12_syncReply_20 : decode cX12_syncReply 20 = .ok (.getfield 109, 3) := by decide +kernel
theorem dX12_syncReply_23 : decode cX12_syncReply 23 = .ok (.iload_n 1, 1) := by decide +kernel
theorem dX12_syncReply_24 : decode cX12_syncReply 24 = .ok (.iaload, 1) := by decide +kernel
theorem dX12_syncReply_25 : decode cX12_syncReply 25 = .ok (.if_icmp .gt 4, 3) := by decide +kernel
theorem dX12_syncReply_28 : decode cX12_syncReply 28 = .ok (.return_, 1) := by decide +kernel
theorem dX12_syncReply_29 : decode cX12_syncReply 29 = .ok (.aload_n 0, 1) := by decide +kernel
theorem dX12_syncReply_30 : decode cX12_syncReply 30 = .ok (.getfield 133, 3) := by decide +kernel
theorem dX12_syncReply_33 : decode cX12_syncReply 33 = .ok (.iload_n 1, 1) := by decide +kernel
theorem dX12_syncReply_34 : decode cX12_syncReply 34 = .ok (.iaload, 1) := by decide +kernel
theorem dX12_syncReply_35 : decode cX12_syncReply 35 = .ok (.iload_n 3, 1) := by decide +kernel
theorem dX12_syncReply_36 : decode cX12_syncReply 36 = .ok (.if_icmp .eq 10, 3) := by decide +kernel
theorem dX12_syncReply_39 : decode cX12_syncReply 39 = .ok (.aload_n 0, 1) := by decide +kernel
theorem dX12_syncReply_40 : decode cX12_syncReply 40 = .ok (.getfield 130, 3) := by decide +kernel
theorem dX12_syncReply_43 : decode cX12_syncReply 43 = .ok (.iload_n 1, 1) := by decide +kernel
theorem dX12_syncReply_44 : decode cX12_syncReply 44 = .ok (.iconst 0, 1) := by decide +kernel
theorem dX12_syncReply_45 : decode cX12_syncReply 45 = .ok (.iastore, 1) := by decide +kernel
theorem dX12_syncReply_46 : decode cX12_syncReply 46 = .ok (.aload_n 0, 1) := by decide +kernel
theorem dX12_syncReply_47 : decode cX12_syncReply 47 = .ok (.getfield 133, 3) := by decide +kernel
theorem dX12_syncReply_50 : decode cX12_syncReply 50 = .ok (.iload_n 1, 1) := by decide +kernel
theorem dX12_syncReply_51 : decode cX12_syncReply 51 = .ok (.iload_n 3, 1) := by decide +kernel
theorem dX12_syncReply_52 : decode cX12_syncReply 52 = .ok (.iastore, 1) := by decide +kernel
theorem dX12_syncReply_53 : decode cX12_syncReply 53 = .ok (.aload_n 0, 1) := by decide +kernel
theorem dX12_syncReply_54 : decode cX12_syncReply 54 = .ok (.getfield 130, 3) := by decide +kernel
theorem dX12_syncReply_57 : decode cX12_syncReply 57 = .ok (.iload_n 1, 1) := by decide +kernel
theorem dX12_syncReply_58 : decode cX12_syncReply 58 = .ok (.dup2, 1) := by decide +kernel
theorem dX12_syncReply_59 : decode cX12_syncReply 59 = .ok (.iaload, 1) := by decide +kernel
theorem dX12_syncReply_60 : decode cX12_syncReply 60 = .ok (.iconst 1, 1) := by decide +kernel
theorem dX12_syncReply_61 : decode cX12_syncReply 61 = .ok (.iload_n 2, 1) := by decide +kernel
theorem dX12_syncReply_62 : decode cX12_syncReply 62 = .ok (.ishl, 1) := by decide +kernel
theorem dX12_syncReply_63 : decode cX12_syncReply 63 = .ok (.ior, 1) := by decide +kernel
theorem dX12_syncReply_64 : decode cX12_syncReply 64 = .ok (.iastore, 1) := by decide +kernel
theorem dX12_syncReply_65 : decode cX12_syncReply 65 = .ok (.aload_n 0, 1) := by decide +kernel
theorem dX12_syncReply_66 : decode cX12_syncReply 66 = .ok (.getfield 130, 3) := by decide +kernel
theorem dX12_syncReply_69 : decode cX12_syncReply 69 = .ok (.iload_n 1, 1) := by decide +kernel
theorem dX12_syncReply_70 : decode cX12_syncReply 70 = .ok (.iaload, 1) := by decide +kernel
theorem dX12_syncReply_71 : decode cX12_syncReply 71 = .ok (.invokestatic 302, 3) := by decide +kernel
theorem dX12_syncReply_74 : decode cX12_syncReply 74 = .ok (.aload_n 0, 1) := by decide +kernel
theorem dX12_syncReply_75 : decode cX12_syncReply 75 = .ok (.getfield 226, 3) := by decide +kernel
theorem dX12_syncReply_78 : decode cX12_syncReply 78 = .ok (.if_icmp .ge 4, 3) := by decide +kernel
theorem dX12_syncReply_81 : decode cX12_syncReply 81 = .ok (.return_, 1) := by decide +kernel
theorem dX12_syncReply_82 : decode cX12_syncReply 82 = .ok (.aload_n 0, 1) := by decide +kernel
theorem dX12_syncReply_83 : decode cX12_syncReply 83 = .ok (.getfield 109, 3) := by decide +kernel
theorem dX12_syncReply_86 : decode cX12_syncReply 86 = .ok (.iload_n 1, 1) := by decide +kernel
theorem dX12_syncReply_87 : decode cX12_syncReply 87 = .ok (.iload_n 3, 1) := by decide +kernel
theorem dX12_syncReply_88 : decode cX12_syncReply 88 = .ok (.iastore, 1) := by decide +kernel
theorem dX12_syncReply_89 : decode cX12_syncReply 89 = .ok (.aload_n 0, 1) := by decide +kernel
theorem dX12_syncReply_90 : decode cX12_syncReply 90 = .ok (.bipush 7, 2) := by decide +kernel
theorem dX12_syncReply_92 : decode cX12_syncReply 92 = .ok (.iload_n 1, 1) := by decide +kernel
theorem dX12_syncReply_93 : decode cX12_syncReply 93 = .ok (.iload_n 3, 1) := by decide +kernel
theorem dX12_syncReply_94 : decode cX12_syncReply 94 = .ok (.invokevirtual 273, 3) := by decide +kernel
theorem dX12_syncReply_97 : decode cX12_syncReply 97 = .ok (.return_, 1) := by decide +kernel
theorem dX12_follow_0 : decode cX12_follow 0 = .ok (.iload_n 2, 1) := by decide +kernel
theorem dX12_follow_1 : decode cX12_follow 1 = .ok (.aload_n 0, 1) := by decide +kernel
theorem dX12_follow_2 : decode cX12_follow 2 = .ok (.getfield 88, 3) := by decide +kernel
theorem dX12_follow_5 : decode cX12_follow 5 = .ok (.iload_n 1, 1) := by decide +kernel
theorem dX12_follow_6 : decode cX12_follow 6 = .ok (.iaload, 1) := by decide +kernel
theorem dX12_follow_7 : decode cX12_follow 7 = .ok (.if_icmp .ne 13, 3) := by decide +kernel
theorem dX12_follow_10 : decode cX12_follow 10 = .ok (.iload_n 3, 1) := by decide +kernel
theorem dX12_follow_11 : decode cX12_follow 11 = .ok (.aload_n 0, 1) := by decide +kernel
theorem dX12_follow_12 : decode cX12_follow 12 = .ok (.getfield 91, 3) := by decide +kernel
theorem dX12_follow_15 : decode cX12_follow 15 = .ok (.iload_n 1, 1) := by decide +kernel
theorem dX12_follow_16 : decode cX12_follow 16 = .ok (.iaload, 1) := by decide +kernel
theorem dX12_follow_17 : decode cX12_follow 17 = .ok (.if_icmp .eq 23, 3) := by decide +kernel
theorem dX12_follow_20 : decode cX12_follow 20 = .ok (.iload_n 2, 1) := by decide +kernel
theorem dX12_follow_21 : decode cX12_follow 21 = .ok (.iload_n 3, 1) := by decide +kernel
theorem dX12_follow_22 : decode cX12_follow 22 = .ok (.aload_n 0, 1) := by decide +kernel
theorem dX12_follow_23 : decode cX12_follow 23 = .ok (.getfield 88, 3) := by decide +kernel
theorem dX12_follow_26 : decode cX12_follow 26 = .ok (.iload_n 1, 1) := by decide +kernel
theorem dX12_follow_27 : decode cX12_follow 27 = .ok (.iaload, 1) := by decide +kernel
theorem dX12_follow_28 : decode cX12_follow 28 = .ok (.aload_n 0, 1) := by decide +kernel
theorem dX12_follow_29 : decode cX12_follow 29 = .ok (.getfield 91, 3) := by decide +kernel
theorem dX12_follow_32 : decode cX12_follow 32 = .ok (.iload_n 1, 1) := by decide +kernel
theorem dX12_follow_33 : decode cX12_follow 33 = .ok (.iaload, 1) := by decide +kernel
theorem dX12_follow_34 : decode cX12_follow 34 = .ok (.invokestatic 321, 3) := by decide +kernel
theorem dX12_follow_37 : decode cX12_follow 37 = .ok (.ifCond .eq 4, 3) := by decide +kernel
theorem dX12_follow_40 : decode cX12_follow 40 = .ok (.return_, 1) := by decide +kernel
theorem dX12_follow_41 : decode cX12_follow 41 = .ok (.aload_n 0, 1) := by decide +kernel
theorem dX12_follow_42 : decode cX12_follow 42 = .ok (.iload_n 1, 1) := by decide +kernel
theorem dX12_follow_43 : decode cX12_follow 43 = .ok (.iload_n 2, 1) := by decide +kernel
theorem dX12_follow_44 : decode cX12_follow 44 = .ok (.aload_n 0, 1) := by decide +kernel
theorem dX12_follow_45 : decode cX12_follow 45 = .ok (.getfield 88, 3) := by decide +kernel
theorem dX12_follow_48 : decode cX12_follow 48 = .ok (.iload_n 1, 1) := by decide +kernel
theorem dX12_follow_49 : decode cX12_follow 49 = .ok (.iaload, 1) := by decide +kernel
theorem dX12_follow_50 : decode cX12_follow 50 = .ok (.if_icmp .le 7, 3) := by decide +kernel
theorem dX12_follow_53 : decode cX12_follow 53 = .ok (.iload_n 2, 1) := by decide +kernel
theorem dX12_follow_54 : decode cX12_follow 54 = .ok (.goto 9, 3) := by decide +kernel
theorem dX12_follow_57 : decode cX12_follow 57 = .ok (.aload_n 0, 1) := by decide +kernel
theorem dX12_follow_58 : decode cX12_follow 58 = .ok (.getfield 88, 3) := by decide +kernel
theorem dX12_follow_61 : decode cX12_follow 61 = .ok (.iload_n 1, 1) := by decide +kernel
theorem dX12_follow_62 : decode cX12_follow 62 = .ok (.iaload, 1) := by decide +kernel
theorem dX12_follow_63 : decode cX12_follow 63 = .ok (.iload_n 3, 1) := by decide +kernel
theorem dX12_follow_64 : decode cX12_follow 64 = .ok (.aload_n 0, 1) := by decide +kernel
theorem dX12_follow_65 : decode cX12_follow 65 = .ok (.getfield 91, 3) := by decide +kernel
theorem dX12_follow_68 : decode cX12_follow 68 = .ok (.iload_n 1, 1) := by decide +kernel
theorem dX12_follow_69 : decode cX12_follow 69 = .ok (.iaload, 1) := by decide +kernel
theorem dX12_follow_70 : decode cX12_follow 70 = .ok (.if_icmp .le 7, 3) := by decide +kernel
theorem dX12_follow_73 : decode cX12_follow 73 = .ok (.iload_n 3, 1) := by decide +kernel
theorem dX12_follow_74 : decode cX12_follow 74 = .ok (.goto 9, 3) := by decide +kernel
theorem dX12_follow_77 : decode cX12_follow 77 = .ok (.aload_n 0, 1) := by decide +kernel
theorem dX12_follow_78 : decode cX12_follow 78 = .ok (.getfield 91, 3) := by decide +kernel
theorem dX12_follow_81 : decode cX12_follow 81 = .ok (.iload_n 1, 1) := by decide +kernel
theorem dX12_follow_82 : decode cX12_follow 82 = .ok (.iaload, 1) := by decide +kernel
theorem dX12_follow_83 : decode cX12_follow 83 = .ok (.invokevirtual 312, 3) := by decide +kernel
theorem dX12_follow_86 : decode cX12_follow 86 = .ok (.return_, 1) := by decide +kernel
theorem dX12_turned_0 : decode cX12_turned 0 = .ok (.aload_n 0, 1) := by decide +kernel
theorem dX12_turned_1 : decode cX12_turned 1 = .ok (.iload_n 1, 1) := by decide +kernel
theorem dX12_turned_2 : decode cX12_turned 2 = .ok (.iload_n 3, 1) := by decide +kernel
theorem dX12_turned_3 : decode cX12_turned 3 = .ok (.iload 4, 2) := by decide +kernel
theorem dX12_turned_5 : decode cX12_turned 5 = .ok (.invokevirtual 325, 3) := by decide +kernel
theorem dX12_turned_8 : decode cX12_turned 8 = .ok (.iload_n 3, 1) := by decide +kernel
theorem dX12_turned_9 : decode cX12_turned 9 = .ok (.aload_n 0, 1) := by decide +kernel
theorem dX12_turned_10 : decode cX12_turned 10 = .ok (.getfield 88, 3) := by decide +kernel
theorem dX12_turned_13 : decode cX12_turned 13 = .ok (.iload_n 1, 1) := by decide +kernel
theorem dX12_turned_14 : decode cX12_turned 14 = .ok (.iaload, 1) := by decide +kernel
theorem dX12_turned_15 : decode cX12_turned 15 = .ok (.if_icmp .ne 22, 3) := by decide +kernel
theorem dX12_turned_18 : decode cX12_turned 18 = .ok (.iload 4, 2) := by decide +kernel
theorem dX12_turned_20 : decode cX12_turned 20 = .ok (.aload_n 0, 1) := by decide +kernel
theorem dX12_turned_21 : decode cX12_turned 21 = .ok (.getfield 91, 3) := by decide +kernel
theorem dX12_turned_24 : decode cX12_turned 24 = .ok (.iload_n 1, 1) := by decide +kernel
theorem dX12_turned_25 : decode cX12_turned 25 = .ok (.iaload, 1) := by decide +kernel
theorem dX12_turned_26 : decode cX12_turned 26 = .ok (.if_icmp .ne 11, 3) := by decide +kernel
theorem dX12_turned_29 : decode cX12_turned 29 = .ok (.aload_n 0, 1) := by decide +kernel
theorem dX12_turned_30 : decode cX12_turned 30 = .ok (.iload_n 1, 1) := by decide +kernel
theorem dX12_turned_31 : decode cX12_turned 31 = .ok (.invokevirtual 248, 3) := by decide +kernel
theorem dX12_turned_34 : decode cX12_turned 34 = .ok (.ifCond .ne 4, 3) := by decide +kernel
theorem dX12_turned_37 : decode cX12_turned 37 = .ok (.return_, 1) := by decide +kernel
theorem dX12_turned_38 : decode cX12_turned 38 = .ok (.aload_n 0, 1) := by decide +kernel
theorem dX12_turned_39 : decode cX12_turned 39 = .ok (.getfield 94, 3) := by decide +kernel
theorem dX12_turned_42 : decode cX12_turned 42 = .ok (.iload_n 1, 1) := by decide +kernel
theorem dX12_turned_43 : decode cX12_turned 43 = .ok (.iaload, 1) := by decide +kernel
theorem dX12_turned_44 : decode cX12_turned 44 = .ok (.iconst 2, 1) := by decide +kernel
theorem dX12_turned_45 : decode cX12_turned 45 = .ok (.if_icmp .eq 28, 3) := by decide +kernel
theorem dX12_turned_48 : decode cX12_turned 48 = .ok (.aload_n 0, 1) := by decide +kernel
theorem dX12_turned_49 : decode cX12_turned 49 = .ok (.aload_n 0, 1) := by decide +kernel
theorem dX12_turned_50 : decode cX12_turned 50 = .ok (.bipush 10, 2) := by decide +kernel
theorem dX12_turned_52 : decode cX12_turned 52 = .ok (.iload_n 1, 1) := by decide +kernel
theorem dX12_turned_53 : decode cX12_turned 53 = .ok (.iload_n 2, 1) := by decide +kernel
theorem dX12_turned_54 : decode cX12_turned 54 = .ok (.iload_n 3, 1) := by decide +kernel
theorem dX12_turned_55 : decode cX12_turned 55 = .ok (.iload 4, 2) := by decide +kernel
theorem dX12_turned_57 : decode cX12_turned 57 = .ok (.iconst 0, 1) := by decide +kernel
theorem dX12_turned_58 : decode cX12_turned 58 = .ok (.iconst 0, 1) := by decide +kernel
theorem dX12_turned_59 : decode cX12_turned 59 = .ok (.invokevirtual 241, 3) := by decide +kernel
theorem dX12_turned_62 : decode cX12_turned 62 = .ok (.iload_n 1, 1) := by decide +kernel
theorem dX12_turned_63 : decode cX12_turned 63 = .ok (.aload_n 0, 1) := by decide +kernel
theorem dX12_turned_64 : decode cX12_turned 64 = .ok (.getfield 103, 3) := by decide +kernel
theorem dX12_turned_67 : decode cX12_turned 67 = .ok (.iload_n 1, 1) := by decide +kernel
theorem dX12_turned_68 : decode cX12_turned 68 = .ok (.iaload, 1) := by decide +kernel
theorem dX12_turned_69 : decode cX12_turned 69 = .ok (.invokevirtual 277, 3) := by decide +kernel
theorem dX12_turned_72 : decode cX12_turned 72 = .ok (.return_, 1) := by decide +kernel
theorem dX12_turned_73 : decode cX12_turned 73 = .ok (.bipush 7, 2) := by decide +kernel
theorem dX12_turned_75 : decode cX12_turned 75 = .ok (.iload_n 1, 1) := by decide +kernel
theorem dX12_turned_76 : decode cX12_turned 76 = .ok (.imul, 1) := by decide +kernel
theorem dX12_turned_77 : decode cX12_turned 77 = .ok (.iload_n 2, 1) := by decide +kernel
theorem dX12_turned_78 : decode cX12_turned 78 = .ok (.iadd, 1) := by decide +kernel
theorem dX12_turned_79 : decode cX12_turned 79 = .ok (.istore 9, 2) := by decide +kernel
theorem dX12_turned_81 : decode cX12_turned 81 = .ok (.aload_n 0, 1) := by decide +kernel
theorem dX12_turned_82 : decode cX12_turned 82 = .ok (.getfield 136, 3) := by decide +kernel
theorem dX12_turned_85 : decode cX12_turned 85 = .ok (.iload_n 1, 1) := by decide +kernel
theorem dX12_turned_86 : decode cX12_turned 86 = .ok (.dup2, 1) := by decide +kernel
theorem dX12_turned_87 : decode cX12_turned 87 = .ok (.iaload, 1) := by decide +kernel
theorem dX12_turned_88 : decode cX12_turned 88 = .ok (.iconst 1, 1) := by decide +kernel
theorem dX12_turned_89 : decode cX12_turned 89 = .ok (.iload_n 2, 1) := by decide +kernel
theorem dX12_turned_90 : decode cX12_turned 90 = .ok (.ishl, 1) := by decide +kernel
theorem dX12_turned_91 : decode cX12_turned 91 = .ok (.ior, 1) := by decide +kernel
theorem dX12_turned_92 : decode cX12_turned 92 = .ok (.iastore, 1) := by decide +kernel
theorem dX12_turned_93 : decode cX12_turned 93 = .ok (.aload_n 0, 1) := by decide +kernel
theorem dX12_turned_94 : decode cX12_turned 94 = .ok (.getfield 139, 3) := by decide +kernel
theorem dX12_turned_97 : decode cX12_turned 97 = .ok (.iload 9, 2) := by decide +kernel
theorem dX12_turned_99 : decode cX12_turned 99 = .ok (.iload 5, 2) := by decide +kernel
theorem dX12_turned_101 : decode cX12_turned 101 = .ok (.iastore, 1) := by decide +kernel
theorem dX12_turned_102 : decode cX12_turned 102 = .ok (.aload_n 0, 1) := by decide +kernel
theorem dX12_turned_103 : decode cX12_turned 103 = .ok (.getfield 142, 3) := by decide +kernel
theorem dX12_turned_106 : decode cX12_turned 106 = .ok (.iload 9, 2) := by decide +kernel
theorem dX12_turned_108 : decode cX12_turned 108 = .ok (.iload 6, 2) := by decide +kernel
theorem dX12_turned_110 : decode cX12_turned 110 = .ok (.iastore, 1) := by decide +kernel
theorem dX12_turned_111 : decode cX12_turned 111 = .ok (.aload_n 0, 1) := by decide +kernel
theorem dX12_turned_112 : decode cX12_turned 112 = .ok (.getfield 145, 3) := by decide +kernel
theorem dX12_turned_115 : decode cX12_turned 115 = .ok (.iload 9, 2) := by decide +kernel
theorem dX12_turned_117 : decode cX12_turned 117 = .ok (.iload 7, 2) := by decide +kernel
theorem dX12_turned_119 : decode cX12_turned 119 = .ok (.iastore, 1) := by decide +kernel
theorem dX12_turned_120 : decode cX12_turned 120 = .ok (.aload_n 0, 1) := by decide +kernel
theorem dX12_turned_121 : decode cX12_turned 121 = .ok (.getfield 148, 3) := by decide +kernel
theorem dX12_turned_124 : decode cX12_turned 124 = .ok (.iload 9, 2) := by decide +kernel
theorem dX12_turned_126 : decode cX12_turned 126 = .ok (.iload 8, 2) := by decide +kernel
theorem dX12_turned_128 : decode cX12_turned 128 = .ok (.iastore, 1) := by decide +kernel
theorem dX12_turned_129 : decode cX12_turned 129 = .ok (.iconst 0, 1) := by decide +kernel
theorem dX12_turned_130 : decode cX12_turned 130 = .ok (.istore 10, 2) := by decide +kernel
theorem dX12_turned_132 : decode cX12_turned 132 = .ok (.iload 10, 2) := by decide +kernel
theorem dX12_turned_134 : decode cX12_turned 134 = .ok (.iload 8, 2) := by decide +kernel
theorem dX12_turned_136 : decode cX12_turned 136 = .ok (.if_icmp .ge 29, 3) := by decide +kernel
theorem dX12_turned_139 : decode cX12_turned 139 = .ok (.aload_n 0, 1) := by decide +kernel
theorem dX12_turned_140 : decode cX12_turned 140 = .ok (.getfield 151, 3) := by decide +kernel
theorem dX12_turned_143 : decode cX12_turned 143 = .ok (.bipush 100, 2) := by decide +kernel
theorem dX12_turned_145 : decode cX12_turned 145 = .ok (.iload 9, 2) := by decide +kernel
theorem dX12_turned_147 : decode cX12_turned 147 = .ok (.imul, 1) := by decide +kernel
theorem dX12_turned_148 : decode cX12_turned 148 = .ok (.iload 10, 2) := by decide +kernel
theorem dX12_turned_150 : decode cX12_turned 150 = .ok (.iadd, 1) := by decide +kernel
theorem dX12_turned_151 : decode cX12_turned 151 = .ok (.aload_n 0, 1) := by decide +kernel
theorem dX12_turned_152 : decode cX12_turned 152 = .ok (.getfield 157, 3) := by decide +kernel
theorem dX12_turned_155 : decode cX12_turned 155 = .ok (.iload 10, 2) := by decide +kernel
theorem dX12_turned_157 : decode cX12_turned 157 = .ok (.iaload, 1) := by decide +kernel
theorem dX12_turned_158 : decode cX12_turned 158 = .ok (.iastore, 1) := by decide +kernel
theorem dX12_turned_159 : decode cX12_turned 159 = .ok (.iinc 10 1, 3) := by decide +kernel
theorem dX12_turned_162 : decode cX12_turned 162 = .ok (.goto (-30), 3) := by decide +kernel
theorem dX12_turned_165 : decode cX12_turned 165 = .ok (.aload_n 0, 1) := by decide +kernel
theorem dX12_turned_166 : decode cX12_turned 166 = .ok (.iload_n 1, 1) := by decide +kernel
theorem dX12_turned_167 : decode cX12_turned 167 = .ok (.invokevirtual 328, 3) := by decide +kernel
theorem dX12_turned_170 : decode cX12_turned 170 = .ok (.return_, 1) := by decide +kernel
theorem dX12_start_0 : decode cX12_start 0 = .ok (.iload_n 2, 1) := by decide +kernel
theorem dX12_start_1 : decode cX12_start 1 = .ok (.aload_n 0, 1) := by decide +kernel
theorem dX12_start_2 : decode cX12_start 2 = .ok (.getfield 88, 3) := by decide +kernel
theorem dX12_start_5 : decode cX12_start 5 = .ok (.iload_n 1, 1) := by decide +kernel
theorem dX12_start_6 : decode cX12_start 6 = .ok (.iaload, 1) := by decide +kernel
theorem dX12_start_7 : decode cX12_start 7 = .ok (.if_icmp .ne 17, 3) := by decide +kernel
theorem dX12_start_10 : decode cX12_start 10 = .ok (.iload_n 3, 1) := by decide +kernel
theorem dX12_start_11 : decode cX12_start 11 = .ok (.aload_n 0, 1) := by decide +kernel
theorem dX12_start_12 : decode cX12_start 12 = .ok (.getfield 91, 3) := by decide +kernel
theorem dX12_start_15 : decode cX12_start 15 = .ok (.iload_n 1, 1) := by decide +kernel
theorem dX12_start_16 : decode cX12_start 16 = .ok (.iaload, 1) := by decide +kernel
theorem dX12_start_17 : decode cX12_start 17 = .ok (.if_icmp .ne 7, 3) := by decide +kernel
theorem dX12_start_20 : decode cX12_start 20 = .ok (.iconst 1, 1) := by decide +kernel
theorem dX12_start_21 : decode cX12_start 21 = .ok (.goto 4, 3) := by decide +kernel
theorem dX12_start_24 : decode cX12_start 24 = .ok (.iconst 0, 1) := by decide +kernel
theorem dX12_start_25 : decode cX12_start 25 = .ok (.istore 6, 2) := by decide +kernel
theorem dX12_start_27 : decode cX12_start 27 = .ok (.aload_n 0, 1) := by decide +kernel
theorem dX12_start_28 : decode cX12_start 28 = .ok (.getfield 88, 3) := by decide +kernel
theorem dX12_start_31 : decode cX12_start 31 = .ok (.iload_n 1, 1) := by decide +kernel
theorem dX12_start_32 : decode cX12_start 32 = .ok (.iaload, 1) := by decide +kernel
theorem dX12_start_33 : decode cX12_start 33 = .ok (.aload_n 0, 1) := by decide +kernel
theorem dX12_start_34 : decode cX12_start 34 = .ok (.getfield 91, 3) := by decide +kernel
theorem dX12_start_37 : decode cX12_start 37 = .ok (.iload_n 1, 1) := by decide +kernel
theorem dX12_start_38 : decode cX12_start 38 = .ok (.iaload, 1) := by decide +kernel
theorem dX12_start_39 : decode cX12_start 39 = .ok (.iload_n 2, 1) := by decide +kernel
theorem dX12_start_40 : decode cX12_start 40 = .ok (.iload_n 3, 1) := by decide +kernel
theorem dX12_start_41 : decode cX12_start 41 = .ok (.invokestatic 321, 3) := by decide +kernel
theorem dX12_start_44 : decode cX12_start 44 = .ok (.ifCond .ne 19, 3) := by decide +kernel
theorem dX12_start_47 : decode cX12_start 47 = .ok (.iload 6, 2) := by decide +kernel
theorem dX12_start_49 : decode cX12_start 49 = .ok (.ifCond .eq 13, 3) := by decide +kernel
theorem dX12_start_52 : decode cX12_start 52 = .ok (.aload_n 0, 1) := by decide +kernel
theorem dX12_start_53 : decode cX12_start 53 = .ok (.getfield 94, 3) := by decide +kernel
theorem dX12_start_56 : decode cX12_start 56 = .ok (.iload_n 1, 1) := by decide +kernel
theorem dX12_start_57 : decode cX12_start 57 = .ok (.iaload, 1) := by decide +kernel
theorem dX12_start_58 : decode cX12_start 58 = .ok (.iconst 2, 1) := by decide +kernel
theorem dX12_start_59 : decode cX12_start 59 = .ok (.if_icmp .eq 4, 3) := by decide +kernel
theorem dX12_start_62 : decode cX12_start 62 = .ok (.return_, 1) := by decide +kernel
theorem dX12_start_63 : decode cX12_start 63 = .ok (.aload_n 0, 1) := by decide +kernel
theorem dX12_start_64 : decode cX12_start 64 = .ok (.getfield 88, 3) := by decide +kernel
theorem dX12_start_67 : decode cX12_start 67 = .ok (.iload_n 1, 1) := by decide +kernel
theorem dX12_start_68 : decode cX12_start 68 = .ok (.iload_n 2, 1) := by decide +kernel
theorem dX12_start_69 : decode cX12_start 69 = .ok (.iastore, 1) := by decide +kernel
theorem dX12_start_70 : decode cX12_start 70 = .ok (.aload_n 0, 1) := by decide +kernel
theorem dX12_start_71 : decode cX12_start 71 = .ok (.getfield 91, 3) := by decide +kernel
theorem dX12_start_74 : decode cX12_start 74 = .ok (.iload_n 1, 1) := by decide +kernel
theorem dX12_start_75 : decode cX12_start 75 = .ok (.iload_n 3, 1) := by decide +kernel
theorem dX12_start_76 : decode cX12_start 76 = .ok (.iastore, 1) := by decide +kernel
theorem dX12_start_77 : decode cX12_start 77 = .ok (.aload_n 0, 1) := by decide +kernel
theorem dX12_start_78 : decode cX12_start 78 = .ok (.getfield 106, 3) := by decide +kernel
theorem dX12_start_81 : decode cX12_start 81 = .ok (.iload_n 1, 1) := by decide +kernel
theorem dX12_start_82 : decode cX12_start 82 = .ok (.iload 4, 2) := by decide +kernel
theorem dX12_start_84 : decode cX12_start 84 = .ok (.iastore, 1) := by decide +kernel
theorem dX12_start_85 : decode cX12_start 85 = .ok (.aload_n 0, 1) := by decide +kernel
theorem dX12_start_86 : decode cX12_start 86 = .ok (.getfield 103, 3) := by decide +kernel
theorem dX12_start_89 : decode cX12_start 89 = .ok (.iload_n 1, 1) := by decide +kernel
theorem dX12_start_90 : decode cX12_start 90 = .ok (.iload 5, 2) := by decide +kernel
theorem dX12_start_92 : decode cX12_start 92 = .ok (.iastore, 1) := by decide +kernel
theorem dX12_start_93 : decode cX12_start 93 = .ok (.iconst 0, 1) := by decide +kernel
theorem dX12_start_94 : decode cX12_start 94 = .ok (.istore 7, 2) := by decide +kernel
theorem dX12_start_96 : decode cX12_start 96 = .ok (.iload 7, 2) := by decide +kernel
theorem dX12_start_98 : decode cX12_start 98 = .ok (.iload 5, 2) := by decide +kernel
theorem dX12_start_100 : decode cX12_start 100 = .ok (.if_icmp .ge 28, 3) := by decide +kernel
theorem dX12_start_103 : decode cX12_start 103 = .ok (.aload_n 0, 1) := by decide +kernel
theorem dX12_start_104 : decode cX12_start 104 = .ok (.getfield 115, 3) := by decide +kernel
theorem dX12_start_107 : decode cX12_start 107 = .ok (.bipush 100, 2) := by decide +kernel
theorem dX12_start_109 : decode cX12_start 109 = .ok (.iload_n 1, 1) := by decide +kernel
theorem dX12_start_110 : decode cX12_start 110 = .ok (.imul, 1) := by decide +kernel
theorem dX12_start_111 : decode cX12_start 111 = .ok (.iload 7, 2) := by decide +kernel
theorem dX12_start_113 : decode cX12_start 113 = .ok (.iadd, 1) := by decide +kernel
theorem dX12_start_114 : decode cX12_start 114 = .ok (.aload_n 0, 1) := by decide +kernel
theorem dX12_start_115 : decode cX12_start 115 = .ok (.getfield 157, 3) := by decide +kernel
theorem dX12_start_118 : decode cX12_start 118 = .ok (.iload 7, 2) := by decide +kernel
theorem dX12_start_120 : decode cX12_start 120 = .ok (.iaload, 1) := by decide +kernel
theorem dX12_start_121 : decode cX12_start 121 = .ok (.iastore, 1) := by decide +kernel
theorem dX12_start_122 : decode cX12_start 122 = .ok (.iinc 7 1, 3) := by decide +kernel
theorem dX12_start_125 : decode cX12_start 125 = .ok (.goto (-29), 3) := by decide +kernel
theorem dX12_start_128 : decode cX12_start 128 = .ok (.aload_n 0, 1) := by decide +kernel
theorem dX12_start_129 : decode cX12_start 129 = .ok (.iload_n 1, 1) := by decide +kernel
theorem dX12_start_130 : decode cX12_start 130 = .ok (.invokevirtual 309, 3) := by decide +kernel
theorem dX12_start_133 : decode cX12_start 133 = .ok (.return_, 1) := by decide +kernel
theorem dX12_forgetFirst_0 : decode cX12_forgetFirst 0 = .ok (.bipush 64, 2) := by decide +kernel
theorem dX12_forgetFirst_2 : decode cX12_forgetFirst 2 = .ok (.iload_n 1, 1) := by decide +kernel
theorem dX12_forgetFirst_3 : decode cX12_forgetFirst 3 = .ok (.imul, 1) := by decide +kernel
theorem dX12_forgetFirst_4 : decode cX12_forgetFirst 4 = .ok (.istore_n 2, 1) := by decide +kernel
theorem dX12_forgetFirst_5 : decode cX12_forgetFirst 5 = .ok (.iload_n 2, 1) := by decide +kernel
theorem dX12_forgetFirst_6 : decode cX12_forgetFirst 6 = .ok (.bipush 64, 2) := by decide +kernel
theorem dX12_forgetFirst_8 : decode cX12_forgetFirst 8 = .ok (.iload_n 1, 1) := by decide +kernel
theorem dX12_forgetFirst_9 : decode cX12_forgetFirst 9 = .ok (.imul, 1) := by decide +kernel
theorem dX12_forgetFirst_10 : decode cX12_forgetFirst 10 = .ok (.bipush 64, 2) := by decide +kernel
theorem dX12_forgetFirst_12 : decode cX12_forgetFirst 12 = .ok (.iadd, 1) := by decide +kernel
theorem dX12_forgetFirst_13 : decode cX12_forgetFirst 13 = .ok (.iconst 1, 1) := by decide +kernel
theorem dX12_forgetFirst_14 : decode cX12_forgetFirst 14 = .ok (.isub, 1) := by decide +kernel
theorem dX12_forgetFirst_15 : decode cX12_forgetFirst 15 = .ok (.if_icmp .ge 79, 3) := by decide +kernel
theorem dX12_forgetFirst_18 : decode cX12_forgetFirst 18 = .ok (.aload_n 0, 1) := by decide +kernel
theorem dX12_forgetFirst_19 : decode cX12_forgetFirst 19 = .ok (.getfield 184, 3) := by decide +kernel
theorem dX12_forgetFirst_22 : decode cX12_forgetFirst 22 = .ok (.iload_n 2, 1) := by decide +kernel
theorem dX12_forgetFirst_23 : decode cX12_forgetFirst 23 = .ok (.aload_n 0, 1) := by decide +kernel
theorem dX12_forgetFirst_24 : decode cX12_forgetFirst 24 = .ok (.getfield 184, 3) := by decide +kernel
theorem dX12_forgetFirst_27 : decode cX12_forgetFirst 27 = .ok (.iload_n 2, 1) := by decide +kernel
theorem dX12_forgetFirst_28 : decode cX12_forgetFirst 28 = .ok (.iconst 1, 1) := by decide +kernel
theorem dX12_forgetFirst_29 : decode cX12_forgetFirst 29 = .ok (.iadd, 1) := by decide +kernel
theorem dX12_forgetFirst_30 : decode cX12_forgetFirst 30 = .ok (.iaload, 1) := by decide +kernel
theorem dX12_forgetFirst_31 : decode cX12_forgetFirst 31 = .ok (.iastore, 1) := by decide +kernel
theorem dX12_forgetFirst_32 : decode cX12_forgetFirst 32 = .ok (.aload_n 0, 1) := by decide +kernel
theorem dX12_forgetFirst_33 : decode cX12_forgetFirst 33 = .ok (.getfield 187, 3) := by decide +kernel
theorem dX12_forgetFirst_36 : decode cX12_forgetFirst 36 = .ok (.iload_n 2, 1) := by decide +kernel
theorem dX12_forgetFirst_37 : decode cX12_forgetFirst 37 = .ok (.aload_n 0, 1) := by decide +kernel
theorem dX12_forgetFirst_38 : decode cX12_forgetFirst 38 = .ok (.getfield 187, 3) := by decide +kernel
theorem dX12_forgetFirst_41 : decode cX12_forgetFirst 41 = .ok (.iload_n 2, 1) := by decide +kernel
theorem dX12_forgetFirst_42 : decode cX12_forgetFirst 42 = .ok (.iconst 1, 1) := by decide +kernel
theorem dX12_forgetFirst_43 : decode cX12_forgetFirst 43 = .ok (.iadd, 1) := by decide +kernel
theorem dX12_forgetFirst_44 : decode cX12_forgetFirst 44 = .ok (.iaload, 1) := by decide +kernel
theorem dX12_forgetFirst_45 : decode cX12_forgetFirst 45 = .ok (.iastore, 1) := by decide +kernel
theorem dX12_forgetFirst_46 : decode cX12_forgetFirst 46 = .ok (.aload_n 0, 1) := by decide +kernel
theorem dX12_forgetFirst_47 : decode cX12_forgetFirst 47 = .ok (.getfield 190, 3) := by decide +kernel
theorem dX12_forgetFirst_50 : decode cX12_forgetFirst 50 = .ok (.iload_n 2, 1) := by decide +kernel
theorem dX12_forgetFirst_51 : decode cX12_forgetFirst 51 = .ok (.aload_n 0, 1) := by decide +kernel
theorem dX12_forgetFirst_52 : decode cX12_forgetFirst 52 = .ok (.getfield 190, 3) := by decide +kernel
theorem dX12_forgetFirst_55 : decode cX12_forgetFirst 55 = .ok (.iload_n 2, 1) := by decide +kernel
theorem dX12_forgetFirst_56 : decode cX12_forgetFirst 56 = .ok (.iconst 1, 1) := by decide +kernel
theorem dX12_forgetFirst_57 : decode cX12_forgetFirst 57 = .ok (.iadd, 1) := by decide +kernel
theorem dX12_forgetFirst_58 : decode cX12_forgetFirst 58 = .ok (.iaload, 1) := by decide +kernel
theorem dX12_forgetFirst_59 : decode cX12_forgetFirst 59 = .ok (.iastore, 1) := by decide +kernel
theorem dX12_forgetFirst_60 : decode cX12_forgetFirst 60 = .ok (.aload_n 0, 1) := by decide +kernel
theorem dX12_forgetFirst_61 : decode cX12_forgetFirst 61 = .ok (.getfield 193, 3) := by decide +kernel
theorem dX12_forgetFirst_64 : decode cX12_forgetFirst 64 = .ok (.iload_n 2, 1) := by decide +kernel
theorem dX12_forgetFirst_65 : decode cX12_forgetFirst 65 = .ok (.aload_n 0, 1) := by decide +kernel
theorem dX12_forgetFirst_66 : decode cX12_forgetFirst 66 = .ok (.getfield 193, 3) := by decide +kernel
theorem dX12_forgetFirst_69 : decode cX12_forgetFirst 69 = .ok (.iload_n 2, 1) := by decide +kernel
theorem dX12_forgetFirst_70 : decode cX12_forgetFirst 70 = .ok (.iconst 1, 1) := by decide +kernel
theorem dX12_forgetFirst_71 : decode cX12_forgetFirst 71 = .ok (.iadd, 1) := by decide +kernel
theorem dX12_forgetFirst_72 : decode cX12_forgetFirst 72 = .ok (.iaload, 1) := by decide +kernel
theorem dX12_forgetFirst_73 : decode cX12_forgetFirst 73 = .ok (.iastore, 1) := by decide +kernel
theorem dX12_forgetFirst_74 : decode cX12_forgetFirst 74 = .ok (.aload_n 0, 1) := by decide +kernel
theorem dX12_forgetFirst_75 : decode cX12_forgetFirst 75 = .ok (.getfield 196, 3) := by decide +kernel
theorem dX12_forgetFirst_78 : decode cX12_forgetFirst 78 = .ok (.iload_n 2, 1) := by decide +kernel
theorem dX12_forgetFirst_79 : decode cX12_forgetFirst 79 = .ok (.aload_n 0, 1) := by decide +kernel
theorem dX12_forgetFirst_80 : decode cX12_forgetFirst 80 = .ok (.getfield 196, 3) := by decide +kernel
theorem dX12_forgetFirst_83 : decode cX12_forgetFirst 83 = .ok (.iload_n 2, 1) := by decide +kernel
theorem dX12_forgetFirst_84 : decode cX12_forgetFirst 84 = .ok (.iconst 1, 1) := by decide +kernel
theorem dX12_forgetFirst_85 : decode cX12_forgetFirst 85 = .ok (.iadd, 1) := by decide +kernel
theorem dX12_forgetFirst_86 : decode cX12_forgetFirst 86 = .ok (.iaload, 1) := by decide +kernel
theorem dX12_forgetFirst_87 : decode cX12_forgetFirst 87 = .ok (.iastore, 1) := by decide +kernel
theorem dX12_forgetFirst_88 : decode cX12_forgetFirst 88 = .ok (.iinc 2 1, 3) := by decide +kernel
theorem dX12_forgetFirst_91 : decode cX12_forgetFirst 91 = .ok (.goto (-86), 3) := by decide +kernel
theorem dX12_forgetFirst_94 : decode cX12_forgetFirst 94 = .ok (.aload_n 0, 1) := by decide +kernel
theorem dX12_forgetFirst_95 : decode cX12_forgetFirst 95 = .ok (.getfield 181, 3) := by decide +kernel
theorem dX12_forgetFirst_98 : decode cX12_forgetFirst 98 = .ok (.iload_n 1, 1) := by decide +kernel
theorem dX12_forgetFirst_99 : decode cX12_forgetFirst 99 = .ok (.bipush 63, 2) := by decide +kernel
theorem dX12_forgetFirst_101 : decode cX12_forgetFirst 101 = .ok (.iastore, 1) := by decide +kernel
theorem dX12_forgetFirst_102 : decode cX12_forgetFirst 102 = .ok (.bipush 64, 2) := by decide +kernel
theorem dX12_forgetFirst_104 : decode cX12_forgetFirst 104 = .ok (.iload_n 1, 1) := by decide +kernel
theorem dX12_forgetFirst_105 : decode cX12_forgetFirst 105 = .ok (.imul, 1) := by decide +kernel
theorem dX12_forgetFirst_106 : decode cX12_forgetFirst 106 = .ok (.bipush 64, 2) := by decide +kernel
theorem dX12_forgetFirst_108 : decode cX12_forgetFirst 108 = .ok (.iadd, 1) := by decide +kernel
theorem dX12_forgetFirst_109 : decode cX12_forgetFirst 109 = .ok (.iconst 1, 1) := by decide +kernel
theorem dX12_forgetFirst_110 : decode cX12_forgetFirst 110 = .ok (.isub, 1) := by decide +kernel
theorem dX12_forgetFirst_111 : decode cX12_forgetFirst 111 = .ok (.ireturn, 1) := by decide +kernel
theorem dX12_replied_0 : decode cX12_replied 0 = .ok (.aload_n 0, 1) := by decide +kernel
theorem dX12_replied_1 : decode cX12_replied 1 = .ok (.getfield 166, 3) := by decide +kernel
theorem dX12_replied_4 : decode cX12_replied 4 = .ok (.iload_n 1, 1) := by decide +kernel
theorem dX12_replied_5 : decode cX12_replied 5 = .ok (.iaload, 1) := by decide +kernel
theorem dX12_replied_6 : decode cX12_replied 6 = .ok (.iconst 1, 1) := by decide +kernel
theorem dX12_replied_7 : decode cX12_replied 7 = .ok (.if_icmp .ne 14, 3) := by decide +kernel
theorem dX12_replied_10 : decode cX12_replied 10 = .ok (.aload_n 0, 1) := by decide +kernel
theorem dX12_replied_11 : decode cX12_replied 11 = .ok (.getfield 163, 3) := by decide +kernel
theorem dX12_replied_14 : decode cX12_replied 14 = .ok (.iload_n 1, 1) := by decide +kernel
theorem dX12_replied_15 : decode cX12_replied 15 = .ok (.iaload, 1) := by decide +kernel
theorem dX12_replied_16 : decode cX12_replied 16 = .ok (.iload 6, 2) := by decide +kernel
theorem dX12_replied_18 : decode cX12_replied 18 = .ok (.if_icmp .eq 4, 3) := by decide +kernel
theorem dX12_replied_21 : decode cX12_replied 21 = .ok (.return_, 1) := by decide +kernel
theorem dX12_replied_22 : decode cX12_replied 22 = .ok (.bipush 64, 2) := by decide +kernel
theorem dX12_replied_24 : decode cX12_replied 24 = .ok (.iload_n 1, 1) := by decide +kernel
theorem dX12_replied_25 : decode cX12_replied 25 = .ok (.imul, 1) := by decide +kernel
theorem dX12_replied_26 : decode cX12_replied 26 = .ok (.istore 9, 2) := by decide +kernel
theorem dX12_replied_28 : decode cX12_replied 28 = .ok (.bipush 64, 2) := by decide +kernel
theorem dX12_replied_30 : decode cX12_replied 30 = .ok (.iload_n 1, 1) := by decide +kernel
theorem dX12_replied_31 : decode cX12_replied 31 = .ok (.imul, 1) := by decide +kernel
theorem dX12_replied_32 : decode cX12_replied 32 = .ok (.aload_n 0, 1) := by decide +kernel
theorem dX12_replied_33 : decode cX12_replied 33 = .ok (.getfield 181, 3) := by decide +kernel
theorem dX12_replied_36 : decode cX12_replied 36 = .ok (.iload_n 1, 1) := by decide +kernel
theorem dX12_replied_37 : decode cX12_replied 37 = .ok (.iaload, 1) := by decide +kernel
theorem dX12_replied_38 : decode cX12_replied 38 = .ok (.iadd, 1) := by decide +kernel
theorem dX12_replied_39 : decode cX12_replied 39 = .ok (.istore 10, 2) := by decide +kernel
theorem dX12_replied_41 : decode cX12_replied 41 = .ok (.iload 9, 2) := by decide +kernel
theorem dX12_replied_43 : decode cX12_replied 43 = .ok (.iload 10, 2) := by decide +kernel
theorem dX12_replied_45 : decode cX12_replied 45 = .ok (.if_icmp .ge 44, 3) := by decide +kernel
theorem dX12_replied_48 : decode cX12_replied 48 = .ok (.aload_n 0, 1) := by decide +kernel
theorem dX12_replied_49 : decode cX12_replied 49 = .ok (.getfield 184, 3) := by decide +kernel
theorem dX12_replied_52 : decode cX12_replied 52 = .ok (.iload 9, 2) := by decide +kernel
theorem dX12_replied_54 : decode cX12_replied 54 = .ok (.iaload, 1) := by decide +kernel
theorem dX12_replied_55 : decode cX12_replied 55 = .ok (.iload_n 3, 1) := by decide +kernel
theorem dX12_replied_56 : decode cX12_replied 56 = .ok (.if_icmp .ne 27, 3) := by decide +kernel
theorem dX12_replied_59 : decode cX12_replied 59 = .ok (.aload_n 0, 1) := by decide +kernel
theorem dX12_replied_60 : decode cX12_replied 60 = .ok (.getfield 187, 3) := by decide +kernel
theorem dX12_replied_63 : decode cX12_replied 63 = .ok (.iload 9, 2) := by decide +kernel
theorem dX12_replied_65 : decode cX12_replied 65 = .ok (.iaload, 1) := by decide +kernel
theorem dX12_replied_66 : decode cX12_replied 66 = .ok (.iload 4, 2) := by decide +kernel
theorem dX12_replied_68 : decode cX12_replied 68 = .ok (.if_icmp .ne 15, 3) := by decide +kernel
theorem dX12_replied_71 : decode cX12_replied 71 = .ok (.aload_n 0, 1) := by decide +kernel
theorem dX12_replied_72 : decode cX12_replied 72 = .ok (.getfield 190, 3) := by decide +kernel
theorem dX12_replied_75 : decode cX12_replied 75 = .ok (.iload 9, 2) := by decide +kernel
theorem dX12_replied_77 : decode cX12_replied 77 = .ok (.iaload, 1) := by decide +kernel
theorem dX12_replied_78 : decode cX12_replied 78 = .ok (.iload 5, 2) := by decide +kernel
theorem dX12_replied_80 : decode cX12_replied 80 = .ok (.if_icmp .eq 9, 3) := by decide +kernel
theorem dX12_replied_83 : decode cX12_replied 83 = .ok (.iinc 9 1, 3) := by decide +kernel
theorem dX12_replied_86 : decode cX12_replied 86 = .ok (.goto (-45), 3) := by decide +kernel
theorem dX12_replied_89 : decode cX12_replied 89 = .ok (.iload 9, 2) := by decide +kernel
theorem dX12_replied_91 : decode cX12_replied 91 = .ok (.iload 10, 2) := by decide +kernel
theorem dX12_replied_93 : decode cX12_replied 93 = .ok (.if_icmp .ne 65, 3) := by decide +kernel
theorem dX12_replied_96 : decode cX12_replied 96 = .ok (.aload_n 0, 1) := by decide +kernel
theorem dX12_replied_97 : decode cX12_replied 97 = .ok (.getfield 181, 3) := by decide +kernel
theorem dX12_replied_100 : decode cX12_replied 100 = .ok (.iload_n 1, 1) := by decide +kernel
theorem dX12_replied_101 : decode cX12_replied 101 = .ok (.iaload, 1) := by decide +kernel
theorem dX12_replied_102 : decode cX12_replied 102 = .ok (.bipush 64, 2) := by decide +kernel
theorem dX12_replied_104 : decode cX12_replied 104 = .ok (.if_icmp .ne 10, 3) := by decide +kernel
theorem dX12_replied_107 : decode cX12_replied 107 = .ok (.aload_n 0, 1) := by decide +kernel
theorem dX12_replied_108 : decode cX12_replied 108 = .ok (.iload_n 1, 1) := by decide +kernel
theorem dX12_replied_109 : decode cX12_replied 109 = .ok (.invokevirtual 331, 3) := by decide +kernel
theorem dX12_replied_112 : decode cX12_replied 112 = .ok (.istore 9, 2) := by decide +kernel
theorem dX12_replied_114 : decode cX12_replied 114 = .ok (.aload_n 0, 1) := by decide +kernel
theorem dX12_replied_115 : decode cX12_replied 115 = .ok (.getfield 181, 3) := by decide +kernel
theorem dX12_replied_118 : decode cX12_replied 118 = .ok (.iload_n 1, 1) := by decide +kernel
theorem dX12_replied_119 : decode cX12_replied 119 = .ok (.dup2, 1) := by decide +kernel
theorem dX12_replied_120 : decode cX12_replied 120 = .ok (.iaload, 1) := by decide +kernel
theorem dX12_replied_121 : decode cX12_replied 121 = .ok (.iconst 1, 1) := by decide +kernel
theorem dX12_replied_122 : decode cX12_replied 122 = .ok (.iadd, 1) := by decide +kernel
theorem dX12_replied_123 : decode cX12_replied 123 = .ok (.iastore, 1) := by decide +kernel
theorem dX12_replied_124 : decode cX12_replied 124 = .ok (.aload_n 0, 1) := by decide +kernel
theorem dX12_replied_125 : decode cX12_replied 125 = .ok (.getfield 184, 3) := by decide +kernel
theorem dX12_replied_128 : decode cX12_replied 128 = .ok (.iload 9, 2) := by decide +kernel
theorem dX12_replied_130 : decode cX12_replied 130 = .ok (.iload_n 3, 1) := by decide +kernel
theorem dX12_replied_131 : decode cX12_replied 131 = .ok (.iastore, 1) := by decide +kernel
theorem dX12_replied_132 : decode cX12_replied 132 = .ok (.aload_n 0, 1) := by decide +kernel
theorem dX12_replied_133 : decode cX12_replied 133 = .ok (.getfield 187, 3) := by decide +kernel
theorem dX12_replied_136 : decode cX12_replied 136 = .ok (.iload 9, 2) := by decide +kernel
theorem dX12_replied_138 : decode cX12_replied 138 = .ok (.iload 4, 2) := by decide +kernel
theorem dX12_replied_140 : decode cX12_replied 140 = .ok (.iastore, 1) := by decide +kernel
theorem dX12_replied_141 : decode cX12_replied 141 = .ok (.aload_n 0, 1) := by decide +kernel
theorem dX12_replied_142 : decode cX12_replied 142 = .ok (.getfield 190, 3) := by decide +kernel
theorem dX12_replied_145 : decode cX12_replied 145 = .ok (.iload 9, 2) := by decide +kernel
theorem dX12_replied_147 : decode cX12_replied 147 = .ok (.iload 5, 2) := by decide +kernel
theorem dX12_replied_149 : decode cX12_replied 149 = .ok (.iastore, 1) := by decide +kernel
theorem dX12_replied_150 : decode cX12_replied 150 = .ok (.aload_n 0, 1) := by decide +kernel
theorem dX12_replied_151 : decode cX12_replied 151 = .ok (.getfield 193, 3) := by decide +kernel
theorem dX12_replied_154 : decode cX12_replied 154 = .ok (.iload 9, 2) := by decide +kernel
theorem dX12_replied_156 : decode cX12_replied 156 = .ok (.iconst 0, 1) := by decide +kernel
theorem dX12_replied_157 : decode cX12_replied 157 = .ok (.iastore, 1) := by decide +kernel
theorem dX12_replied_158 : decode cX12_replied 158 = .ok (.aload_n 0, 1) := by decide +kernel
theorem dX12_replied_159 : decode cX12_replied 159 = .ok (.getfield 193, 3) := by decide +kernel
theorem dX12_replied_162 : decode cX12_replied 162 = .ok (.iload 9, 2) := by decide +kernel
theorem dX12_replied_164 : decode cX12_replied 164 = .ok (.dup2, 1) := by decide +kernel
theorem dX12_replied_165 : decode cX12_replied 165 = .ok (.iaload, 1) := by decide +kernel
theorem dX12_replied_166 : decode cX12_replied 166 = .ok (.iconst 1, 1) := by decide +kernel
theorem dX12_replied_167 : decode cX12_replied 167 = .ok (.iload_n 2, 1) := by decide +kernel
theorem dX12_replied_168 : decode cX12_replied 168 = .ok (.ishl, 1) := by decide +kernel
theorem dX12_replied_169 : decode cX12_replied 169 = .ok (.ior, 1) := by decide +kernel
theorem dX12_replied_170 : decode cX12_replied 170 = .ok (.iastore, 1) := by decide +kernel
theorem dX12_replied_171 : decode cX12_replied 171 = .ok (.iload 7, 2) := by decide +kernel
theorem dX12_replied_173 : decode cX12_replied 173 = .ok (.ifCond .eq 12, 3) := by decide +kernel
theorem dX12_replied_176 : decode cX12_replied 176 = .ok (.aload_n 0, 1) := by decide +kernel
theorem dX12_replied_177 : decode cX12_replied 177 = .ok (.getfield 196, 3) := by decide +kernel
theorem dX12_replied_180 : decode cX12_replied 180 = .ok (.iload 9, 2) := by decide +kernel
theorem dX12_replied_182 : decode cX12_replied 182 = .ok (.iload 8, 2) := by decide +kernel
theorem dX12_replied_184 : decode cX12_replied 184 = .ok (.iastore, 1) := by decide +kernel
theorem dX12_replied_185 : decode cX12_replied 185 = .ok (.aload_n 0, 1) := by decide +kernel
theorem dX12_replied_186 : decode cX12_replied 186 = .ok (.getfield 193, 3) := by decide +kernel
theorem dX12_replied_189 : decode cX12_replied 189 = .ok (.iload 9, 2) := by decide +kernel
theorem dX12_replied_191 : decode cX12_replied 191 = .ok (.iaload, 1) := by decide +kernel
theorem dX12_replied_192 : decode cX12_replied 192 = .ok (.invokestatic 302, 3) := by decide +kernel
theorem dX12_replied_195 : decode cX12_replied 195 = .ok (.aload_n 0, 1) := by decide +kernel
theorem dX12_replied_196 : decode cX12_replied 196 = .ok (.getfield 226, 3) := by decide +kernel
theorem dX12_replied_199 : decode cX12_replied 199 = .ok (.if_icmp .le 22, 3) := by decide +kernel
theorem dX12_replied_202 : decode cX12_replied 202 = .ok (.aload_n 0, 1) := by decide +kernel
theorem dX12_replied_203 : decode cX12_replied 203 = .ok (.getfield 193, 3) := by decide +kernel
theorem dX12_replied_206 : decode cX12_replied 206 = .ok (.iload 9, 2) := by decide +kernel
theorem dX12_replied_208 : decode cX12_replied 208 = .ok (.iaload, 1) := by decide +kernel
theorem dX12_replied_209 : decode cX12_replied 209 = .ok (.iload_n 3, 1) := by decide +kernel
theorem dX12_replied_210 : decode cX12_replied 210 = .ok (.aload_n 0, 1) := by decide +kernel
theorem dX12_replied_211 : decode cX12_replied 211 = .ok (.getfield 223, 3) := by decide +kernel
theorem dX12_replied_214 : decode cX12_replied 214 = .ok (.irem, 1) := by decide +kernel
theorem dX12_replied_215 : decode cX12_replied 215 = .ok (.ishr, 1) := by decide +kernel
theorem dX12_replied_216 : decode cX12_replied 216 = .ok (.iconst 1, 1) := by decide +kernel
theorem dX12_replied_217 : decode cX12_replied 217 = .ok (.iand, 1) := by decide +kernel
theorem dX12_replied_218 : decode cX12_replied 218 = .ok (.ifCond .ne 4, 3) := by decide +kernel
theorem dX12_replied_221 : decode cX12_replied 221 = .ok (.return_, 1) := by decide +kernel
theorem dX12_replied_222 : decode cX12_replied 222 = .ok (.aload_n 0, 1) := by decide +kernel
theorem dX12_replied_223 : decode cX12_replied 223 = .ok (.getfield 166, 3) := by decide +kernel
theorem dX12_replied_226 : decode cX12_replied 226 = .ok (.iload_n 1, 1) := by decide +kernel
theorem dX12_replied_227 : decode cX12_replied 227 = .ok (.iconst 2, 1) := by decide +kernel
theorem dX12_replied_228 : decode cX12_replied 228 = .ok (.iastore, 1) := by decide +kernel
theorem dX12_replied_229 : decode cX12_replied 229 = .ok (.aload_n 0, 1) := by decide +kernel
theorem dX12_replied_230 : decode cX12_replied 230 = .ok (.getfield 169, 3) := by decide +kernel
theorem dX12_replied_233 : decode cX12_replied 233 = .ok (.iload_n 1, 1) := by decide +kernel
theorem dX12_replied_234 : decode cX12_replied 234 = .ok (.iload 5, 2) := by decide +kernel
theorem dX12_replied_236 : decode cX12_replied 236 = .ok (.iastore, 1) := by decide +kernel
theorem dX12_replied_237 : decode cX12_replied 237 = .ok (.aload_n 0, 1) := by decide +kernel
theorem dX12_replied_238 : decode cX12_replied 238 = .ok (.getfield 172, 3) := by decide +kernel
theorem dX12_replied_241 : decode cX12_replied 241 = .ok (.iload_n 1, 1) := by decide +kernel
theorem dX12_replied_242 : decode cX12_replied 242 = .ok (.iload_n 3, 1) := by decide +kernel
theorem dX12_replied_243 : decode cX12_replied 243 = .ok (.iastore, 1) := by decide +kernel
theorem dX12_replied_244 : decode cX12_replied 244 = .ok (.aload_n 0, 1) := by decide +kernel
theorem dX12_replied_245 : decode cX12_replied 245 = .ok (.getfield 175, 3) := by decide +kernel
theorem dX12_replied_248 : decode cX12_replied 248 = .ok (.iload_n 1, 1) := by decide +kernel
theorem dX12_replied_249 : decode cX12_replied 249 = .ok (.iload 4, 2) := by decide +kernel
theorem dX12_replied_251 : decode cX12_replied 251 = .ok (.iastore, 1) := by decide +kernel
theorem dX12_replied_252 : decode cX12_replied 252 = .ok (.aload_n 0, 1) := by decide +kernel
theorem dX12_replied_253 : decode cX12_replied 253 = .ok (.getfield 178, 3) := by decide +kernel
theorem dX12_replied_256 : decode cX12_replied 256 = .ok (.iload_n 1, 1) := by decide +kernel
theorem dX12_replied_257 : decode cX12_replied 257 = .ok (.aload_n 0, 1) := by decide +kernel
theorem dX12_replied_258 : decode cX12_replied 258 = .ok (.getfield 196, 3) := by decide +kernel
theorem dX12_replied_261 : decode cX12_replied 261 = .ok (.iload 9, 2) := by decide +kernel
theorem dX12_replied_263 : decode cX12_replied 263 = .ok (.iaload, 1) := by decide +kernel
theorem dX12_replied_264 : decode cX12_replied 264 = .ok (.iastore, 1) := by decide +kernel
theorem dX12_replied_265 : decode cX12_replied 265 = .ok (.aload_n 0, 1) := by decide +kernel
theorem dX12_replied_266 : decode cX12_replied 266 = .ok (.getfield 334, 3) := by decide +kernel
theorem dX12_replied_269 : decode cX12_replied 269 = .ok (.sipush 200, 3) := by decide +kernel
theorem dX12_replied_272 : decode cX12_replied 272 = .ok (.irem, 1) := by decide +kernel
theorem dX12_replied_273 : decode cX12_replied 273 = .ok (.istore 11, 2) := by decide +kernel
theorem dX12_replied_275 : decode cX12_replied 275 = .ok (.aload_n 0, 1) := by decide +kernel
theorem dX12_replied_276 : decode cX12_replied 276 = .ok (.getfield 199, 3) := by decide +kernel
theorem dX12_replied_279 : decode cX12_replied 279 = .ok (.iload 11, 2) := by decide +kernel
theorem dX12_replied_281 : decode cX12_replied 281 = .ok (.iload 6, 2) := by decide +kernel
theorem dX12_replied_283 : decode cX12_replied 283 = .ok (.iastore, 1) := by decide +kernel
theorem dX12_replied_284 : decode cX12_replied 284 = .ok (.aload_n 0, 1) := by decide +kernel
theorem dX12_replied_285 : decode cX12_replied 285 = .ok (.getfield 202, 3) := by decide +kernel
theorem dX12_replied_288 : decode cX12_replied 288 = .ok (.iload 11, 2) := by decide +kernel
theorem dX12_replied_290 : decode cX12_replied 290 = .ok (.iload_n 3, 1) := by decide +kernel
theorem dX12_replied_291 : decode cX12_replied 291 = .ok (.iastore, 1) := by decide +kernel
theorem dX12_replied_292 : decode cX12_replied 292 = .ok (.aload_n 0, 1) := by decide +kernel
theorem dX12_replied_293 : decode cX12_replied 293 = .ok (.getfield 205, 3) := by decide +kernel
theorem dX12_replied_296 : decode cX12_replied 296 = .ok (.iload 11, 2) := by decide +kernel
theorem dX12_replied_298 : decode cX12_replied 298 = .ok (.iload 4, 2) := by decide +kernel
theorem dX12_replied_300 : decode cX12_replied 300 = .ok (.iastore, 1) := by decide +kernel
theorem dX12_replied_301 : decode cX12_replied 301 = .ok (.aload_n 0, 1) := by decide +kernel
theorem dX12_replied_302 : decode cX12_replied 302 = .ok (.getfield 208, 3) := by decide +kernel
theorem dX12_replied_305 : decode cX12_replied 305 = .ok (.iload 11, 2) := by decide +kernel
theorem dX12_replied_307 : decode cX12_replied 307 = .ok (.iload 5, 2) := by decide +kernel
theorem dX12_replied_309 : decode cX12_replied 309 = .ok (.iastore, 1) := by decide +kernel
theorem dX12_replied_310 : decode cX12_replied 310 = .ok (.aload_n 0, 1) := by decide +kernel
theorem dX12_replied_311 : decode cX12_replied 311 = .ok (.getfield 211, 3) := by decide +kernel
theorem dX12_replied_314 : decode cX12_replied 314 = .ok (.iload 11, 2) := by decide +kernel
theorem dX12_replied_316 : decode cX12_replied 316 = .ok (.aload_n 0, 1) := by decide +kernel
theorem dX12_replied_317 : decode cX12_replied 317 = .ok (.getfield 178, 3) := by decide +kernel
theorem dX12_replied_320 : decode cX12_replied 320 = .ok (.iload_n 1, 1) := by decide +kernel
theorem dX12_replied_321 : decode cX12_replied 321 = .ok (.iaload, 1) := by decide +kernel
theorem dX12_replied_322 : decode cX12_replied 322 = .ok (.iastore, 1) := by decide +kernel
theorem dX12_replied_323 : decode cX12_replied 323 = .ok (.aload_n 0, 1) := by decide +kernel
theorem dX12_replied_324 : decode cX12_replied 324 = .ok (.dup, 1) := by decide +kernel
theorem dX12_replied_325 : decode cX12_replied 325 = .ok (.getfield 334, 3) := by decide +kernel
theorem dX12_replied_328 : decode cX12_replied 328 = .ok (.iconst 1, 1) := by decide +kernel
theorem dX12_replied_329 : decode cX12_replied 329 = .ok (.iadd, 1) := by decide +kernel
theorem dX12_replied_330 : decode cX12_replied 330 = .ok (.putfield 334, 3) := by decide +kernel
theorem dX12_replied_333 : decode cX12_replied 333 = .ok (.return_, 1) := by decide +kernel
theorem dX12_inView_0 : decode cX12_inView 0 = .ok (.iload_n 1, 1) := by decide +kernel
theorem dX12_inView_1 : decode cX12_inView 1 = .ok (.tableswitch 142 1 6 #[39, 50, 99, 110, 121, 131], 39) := by decide +kernel
theorem dX12_inView_40 : decode cX12_inView 40 = .ok (.aload_n 0, 1) := by decide +kernel
theorem dX12_inView_41 : decode cX12_inView 41 = .ok (.iload_n 2, 1) := by decide +kernel
theorem dX12_inView_42 : decode cX12_inView 42 = .ok (.iload_n 3, 1) := by decide +kernel
theorem dX12_inView_43 : decode cX12_inView 43 = .ok (.iload 4, 2) := by decide +kernel
theorem dX12_inView_45 : decode cX12_inView 45 = .ok (.invokevirtual 337, 3) := by decide +kernel
theorem dX12_inView_48 : decode cX12_inView 48 = .ok (.goto 143, 3) := by decide +kernel
theorem dX12_inView_51 : decode cX12_inView 51 = .ok (.aload_n 0, 1) := by decide +kernel
theorem dX12_inView_52 : decode cX12_inView 52 = .ok (.getfield 94, 3) := by decide +kernel
theorem dX12_inView_55 : decode cX12_inView 55 = .ok (.iload_n 2, 1) := by decide +kernel
theorem dX12_inView_56 : decode cX12_inView 56 = .ok (.iaload, 1) := by decide +kernel
theorem dX12_inView_57 : decode cX12_inView 57 = .ok (.ifCond .ne 134, 3) := by decide +kernel
theorem dX12_inView_60 : decode cX12_inView 60 = .ok (.iload 4, 2) := by decide +kernel
theorem dX12_inView_62 : decode cX12_inView 62 = .ok (.aload_n 0, 1) := by decide +kernel
theorem dX12_inView_63 : decode cX12_inView 63 = .ok (.getfield 103, 3) := by decide +kernel
theorem dX12_inView_66 : decode cX12_inView 66 = .ok (.iload_n 2, 1) := by decide +kernel
theorem dX12_inView_67 : decode cX12_inView 67 = .ok (.iaload, 1) := by decide +kernel
theorem dX12_inView_68 : decode cX12_inView 68 = .ok (.iconst 1, 1) := by decide +kernel
theorem dX12_inView_69 : decode cX12_inView 69 = .ok (.iadd, 1) := by decide +kernel
theorem dX12_inView_70 : decode cX12_inView 70 = .ok (.if_icmp .eq 6, 3) := by decide +kernel
theorem dX12_inView_73 : decode cX12_inView 73 = .ok (.goto 118, 3) := by decide +kernel
theorem dX12_inView_76 : decode cX12_inView 76 = .ok (.aload_n 0, 1) := by decide +kernel
theorem dX12_inView_77 : decode cX12_inView 77 = .ok (.iload_n 2, 1) := by decide +kernel
theorem dX12_inView_78 : decode cX12_inView 78 = .ok (.iload 4, 2) := by decide +kernel
theorem dX12_inView_80 : decode cX12_inView 80 = .ok (.aload_n 0, 1) := by decide +kernel
theorem dX12_inView_81 : decode cX12_inView 81 = .ok (.getfield 106, 3) := by decide +kernel
theorem dX12_inView_84 : decode cX12_inView 84 = .ok (.iload_n 2, 1) := by decide +kernel
theorem dX12_inView_85 : decode cX12_inView 85 = .ok (.iaload, 1) := by decide +kernel
theorem dX12_inView_86 : decode cX12_inView 86 = .ok (.isub, 1) := by decide +kernel
theorem dX12_inView_87 : decode cX12_inView 87 = .ok (.iload 5, 2) := by decide +kernel
theorem dX12_inView_89 : decode cX12_inView 89 = .ok (.invokevirtual 315, 3) := by decide +kernel
theorem dX12_inView_92 : decode cX12_inView 92 = .ok (.aload_n 0, 1) := by decide +kernel
theorem dX12_inView_93 : decode cX12_inView 93 = .ok (.iload_n 2, 1) := by decide +kernel
theorem dX12_inView_94 : decode cX12_inView 94 = .ok (.invokevirtual 318, 3) := by decide +kernel
theorem dX12_inView_97 : decode cX12_inView 97 = .ok (.goto 94, 3) := by decide +kernel
theorem dX12_inView_100 : decode cX12_inView 100 = .ok (.aload_n 0, 1) := by decide +kernel
theorem dX12_inView_101 : decode cX12_inView 101 = .ok (.iload_n 2, 1) := by decide +kernel
theorem dX12_inView_102 : decode cX12_inView 102 = .ok (.iload_n 3, 1) := by decide +kernel
theorem dX12_inView_103 : decode cX12_inView 103 = .ok (.iload 4, 2) := by decide +kernel
theorem dX12_inView_105 : decode cX12_inView 105 = .ok (.invokevirtual 340, 3) := by decide +kernel
theorem dX12_inView_108 : decode cX12_inView 108 = .ok (.goto 83, 3) := by decide +kernel
theorem dX12_inView_111 : decode cX12_inView 111 = .ok (.aload_n 0, 1) := by decide +kernel
theorem dX12_inView_112 : decode cX12_inView 112 = .ok (.iload_n 2, 1) := by decide +kernel
theorem dX12_inView_113 : decode cX12_inView 113 = .ok (.iload_n 3, 1) := by decide +kernel
theorem dX12_inView_114 : decode cX12_inView 114 = .ok (.iload 4, 2) := by decide +kernel
theorem dX12_inView_116 : decode cX12_inView 116 = .ok (.invokevirtual 343, 3) := by decide +kernel
theorem dX12_inView_119 : decode cX12_inView 119 = .ok (.goto 72, 3) := by decide +kernel
theorem dX12_inView_122 : decode cX12_inView 122 = .ok (.aload_n 0, 1) := by decide +kernel
theorem dX12_inView_123 : decode cX12_inView 123 = .ok (.iload_n 2, 1) := by decide +kernel
theorem dX12_inView_124 : decode cX12_inView 124 = .ok (.iload 4, 2) := by decide +kernel
theorem dX12_inView_126 : decode cX12_inView 126 = .ok (.invokevirtual 346, 3) := by decide +kernel
theorem dX12_inView_129 : decode cX12_inView 129 = .ok (.goto 62, 3) := by decide +kernel
theorem dX12_inView_132 : decode cX12_inView 132 = .ok (.aload_n 0, 1) := by decide +kernel
theorem dX12_inView_133 : decode cX12_inView 133 = .ok (.iload_n 2, 1) := by decide +kernel
theorem dX12_inView_134 : decode cX12_inView 134 = .ok (.iload_n 3, 1) := by decide +kernel
theorem dX12_inView_135 : decode cX12_inView 135 = .ok (.iload 4, 2) := by decide +kernel
theorem dX12_inView_137 : decode cX12_inView 137 = .ok (.invokevirtual 349, 3) := by decide +kernel
theorem dX12_inView_140 : decode cX12_inView 140 = .ok (.goto 51, 3) := by decide +kernel
theorem dX12_inView_143 : decode cX12_inView 143 = .ok (.aload_n 0, 1) := by decide +kernel
theorem dX12_inView_144 : decode cX12_inView 144 = .ok (.iload_n 2, 1) := by decide +kernel
theorem dX12_inView_145 : decode cX12_inView 145 = .ok (.invokevirtual 248, 3) := by decide +kernel
theorem dX12_inView_148 : decode cX12_inView 148 = .ok (.ifCond .ne 43, 3) := by decide +kernel
theorem dX12_inView_151 : decode cX12_inView 151 = .ok (.aload_n 0, 1) := by decide +kernel
theorem dX12_inView_152 : decode cX12_inView 152 = .ok (.getfield 94, 3) := by decide +kernel
theorem dX12_inView_155 : decode cX12_inView 155 = .ok (.iload_n 2, 1) := by decide +kernel
theorem dX12_inView_156 : decode cX12_inView 156 = .ok (.iaload, 1) := by decide +kernel
theorem dX12_inView_157 : decode cX12_inView 157 = .ok (.iconst 2, 1) := by decide +kernel
theorem dX12_inView_158 : decode cX12_inView 158 = .ok (.if_icmp .eq 33, 3) := by decide +kernel
theorem dX12_inView_161 : decode cX12_inView 161 = .ok (.iload 4, 2) := by decide +kernel
theorem dX12_inView_163 : decode cX12_inView 163 = .ok (.aload_n 0, 1) := by decide +kernel
theorem dX12_inView_164 : decode cX12_inView 164 = .ok (.getfield 109, 3) := by decide +kernel
theorem dX12_inView_167 : decode cX12_inView 167 = .ok (.iload_n 2, 1) := by decide +kernel
theorem dX12_inView_168 : decode cX12_inView 168 = .ok (.iaload, 1) := by decide +kernel
theorem dX12_inView_169 : decode cX12_inView 169 = .ok (.if_icmp .le 22, 3) := by decide +kernel
theorem dX12_inView_172 : decode cX12_inView 172 = .ok (.aload_n 0, 1) := by decide +kernel
theorem dX12_inView_173 : decode cX12_inView 173 = .ok (.getfield 112, 3) := by decide +kernel
theorem dX12_inView_176 : decode cX12_inView 176 = .ok (.iload_n 2, 1) := by decide +kernel
theorem dX12_inView_177 : decode cX12_inView 177 = .ok (.iaload, 1) := by decide +kernel
theorem dX12_inView_178 : decode cX12_inView 178 = .ok (.iload 4, 2) := by decide +kernel
theorem dX12_inView_180 : decode cX12_inView 180 = .ok (.if_icmp .lt 11, 3) := by decide +kernel
theorem dX12_inView_183 : decode cX12_inView 183 = .ok (.aload_n 0, 1) := by decide +kernel
theorem dX12_inView_184 : decode cX12_inView 184 = .ok (.getfield 109, 3) := by decide +kernel
theorem dX12_inView_187 : decode cX12_inView 187 = .ok (.iload_n 2, 1) := by decide +kernel
theorem dX12_inView_188 : decode cX12_inView 188 = .ok (.iload 4, 2) := by decide +kernel
theorem dX12_inView_190 : decode cX12_inView 190 = .ok (.iastore, 1) := by decide +kernel
theorem dX12_inView_191 : decode cX12_inView 191 = .ok (.return_, 1) := by decide +kernel
theorem dX12_arrive_0 : decode cX12_arrive 0 = .ok (.aload_n 0, 1) := by decide +kernel
theorem dX12_arrive_1 : decode cX12_arrive 1 = .ok (.iload_n 1, 1) := by decide +kernel
theorem dX12_arrive_2 : decode cX12_arrive 2 = .ok (.invokevirtual 352, 3) := by decide +kernel
theorem dX12_arrive_5 : decode cX12_arrive 5 = .ok (.istore_n 2, 1) := by decide +kernel
theorem dX12_arrive_6 : decode cX12_arrive 6 = .ok (.aload_n 0, 1) := by decide +kernel
theorem dX12_arrive_7 : decode cX12_arrive 7 = .ok (.getfield 42, 3) := by decide +kernel
theorem dX12_arrive_10 : decode cX12_arrive 10 = .ok (.iload_n 2, 1) := by decide +kernel
theorem dX12_arrive_11 : decode cX12_arrive 11 = .ok (.iaload, 1) := by decide +kernel
theorem dX12_arrive_12 : decode cX12_arrive 12 = .ok (.istore_n 3, 1) := by decide +kernel
theorem dX12_arrive_13 : decode cX12_arrive 13 = .ok (.aload_n 0, 1) := by decide +kernel
theorem dX12_arrive_14 : decode cX12_arrive 14 = .ok (.getfield 48, 3) := by decide +kernel
theorem dX12_arrive_17 : decode cX12_arrive 17 = .ok (.iload_n 2, 1) := by decide +kernel
theorem dX12_arrive_18 : decode cX12_arrive 18 = .ok (.iaload, 1) := by decide +kernel
theorem dX12_arrive_19 : decode cX12_arrive 19 = .ok (.istore 4, 2) := by decide +kernel
theorem dX12_arrive_21 : decode cX12_arrive 21 = .ok (.aload_n 0, 1) := by decide +kernel
theorem dX12_arrive_22 : decode cX12_arrive 22 = .ok (.getfield 45, 3) := by decide +kernel
theorem dX12_arrive_25 : decode cX12_arrive 25 = .ok (.iload_n 2, 1) := by decide +kernel
theorem dX12_arrive_26 : decode cX12_arrive 26 = .ok (.iaload, 1) := by decide +kernel
theorem dX12_arrive_27 : decode cX12_arrive 27 = .ok (.istore 5, 2) := by decide +kernel
theorem dX12_arrive_29 : decode cX12_arrive 29 = .ok (.aload_n 0, 1) := by decide +kernel
theorem dX12_arrive_30 : decode cX12_arrive 30 = .ok (.getfield 51, 3) := by decide +kernel
theorem dX12_arrive_33 : decode cX12_arrive 33 = .ok (.iload_n 2, 1) := by decide +kernel
theorem dX12_arrive_34 : decode cX12_arrive 34 = .ok (.iaload, 1) := by decide +kernel
theorem dX12_arrive_35 : decode cX12_arrive 35 = .ok (.istore 6, 2) := by decide +kernel
theorem dX12_arrive_37 : decode cX12_arrive 37 = .ok (.aload_n 0, 1) := by decide +kernel
theorem dX12_arrive_38 : decode cX12_arrive 38 = .ok (.getfield 54, 3) := by decide +kernel
theorem dX12_arrive_41 : decode cX12_arrive 41 = .ok (.iload_n 2, 1) := by decide +kernel
theorem dX12_arrive_42 : decode cX12_arrive 42 = .ok (.iaload, 1) := by decide +kernel
theorem dX12_arrive_43 : decode cX12_arrive 43 = .ok (.istore 7, 2) := by decide +kernel
theorem dX12_arrive_45 : decode cX12_arrive 45 = .ok (.aload_n 0, 1) := by decide +kernel
theorem dX12_arrive_46 : decode cX12_arrive 46 = .ok (.getfield 75, 3) := by decide +kernel
theorem dX12_arrive_49 : decode cX12_arrive 49 = .ok (.iload_n 2, 1) := by decide +kernel
theorem dX12_arrive_50 : decode cX12_arrive 50 = .ok (.iaload, 1) := by decide +kernel
theorem dX12_arrive_51 : decode cX12_arrive 51 = .ok (.istore 8, 2) := by decide +kernel
theorem dX12_arrive_53 : decode cX12_arrive 53 = .ok (.iconst 0, 1) := by decide +kernel
theorem dX12_arrive_54 : decode cX12_arrive 54 = .ok (.istore 9, 2) := by decide +kernel
theorem dX12_arrive_56 : decode cX12_arrive 56 = .ok (.iload 9, 2) := by decide +kernel
theorem dX12_arrive_58 : decode cX12_arrive 58 = .ok (.iload 8, 2) := by decide +kernel
theorem dX12_arrive_60 : decode cX12_arrive 60 = .ok (.if_icmp .ge 28, 3) := by decide +kernel
theorem dX12_arrive_63 : decode cX12_arrive 63 = .ok (.aload_n 0, 1) := by decide +kernel
theorem dX12_arrive_64 : decode cX12_arrive 64 = .ok (.getfield 157, 3) := by decide +kernel
theorem dX12_arrive_67 : decode cX12_arrive 67 = .ok (.iload 9, 2) := by decide +kernel
theorem dX12_arrive_69 : decode cX12_arrive 69 = .ok (.aload_n 0, 1) := by decide +kernel
theorem dX12_arrive_70 : decode cX12_arrive 70 = .ok (.getfield 82, 3) := by decide +kernel
theorem dX12_arrive_73 : decode cX12_arrive 73 = .ok (.bipush 100, 2) := by decide +kernel
theorem dX12_arrive_75 : decode cX12_arrive 75 = .ok (.iload_n 2, 1) := by decide +kernel
theorem dX12_arrive_76 : decode cX12_arrive 76 = .ok (.imul, 1) := by decide +kernel
theorem dX12_arrive_77 : decode cX12_arrive 77 = .ok (.iload 9, 2) := by decide +kernel
theorem dX12_arrive_79 : decode cX12_arrive 79 = .ok (.iadd, 1) := by decide +kernel
theorem dX12_arrive_80 : decode cX12_arrive 80 = .ok (.iaload, 1) := by decide +kernel
theorem dX12_arrive_81 : decode cX12_arrive 81 = .ok (.iastore, 1) := by decide +kernel
theorem dX12_arrive_82 : decode cX12_arrive 82 = .ok (.iinc 9 1, 3) := by decide +kernel
theorem dX12_arrive_85 : decode cX12_arrive 85 = .ok (.goto (-29), 3) := by decide +kernel
theorem dX12_arrive_88 : decode cX12_arrive 88 = .ok (.iload_n 3, 1) := by decide +kernel
theorem dX12_arrive_89 : decode cX12_arrive 89 = .ok (.bipush 11, 2) := by decide +kernel
theorem dX12_arrive_91 : decode cX12_arrive 91 = .ok (.if_icmp .ne 40, 3) := by decide +kernel
theorem dX12_arrive_94 : decode cX12_arrive 94 = .ok (.aload_n 0, 1) := by decide +kernel
theorem dX12_arrive_95 : decode cX12_arrive 95 = .ok (.iload 4, 2) := by decide +kernel
theorem dX12_arrive_97 : decode cX12_arrive 97 = .ok (.iload 5, 2) := by decide +kernel
theorem dX12_arrive_99 : decode cX12_arrive 99 = .ok (.iload 6, 2) := by decide +kernel
theorem dX12_arrive_101 : decode cX12_arrive 101 = .ok (.iload 7, 2) := by decide +kernel
theorem dX12_arrive_103 : decode cX12_arrive 103 = .ok (.aload_n 0, 1) := by decide +kernel
theorem dX12_arrive_104 : decode cX12_arrive 104 = .ok (.getfield 57, 3) := by decide +kernel
theorem dX12_arrive_107 : decode cX12_arrive 107 = .ok (.iload_n 2, 1) := by decide +kernel
theorem dX12_arrive_108 : decode cX12_arrive 108 = .ok (.iaload, 1) := by decide +kernel
theorem dX12_arrive_109 : decode cX12_arrive 109 = .ok (.aload_n 0, 1) := by decide +kernel
theorem dX12_arrive_110 : decode cX12_arrive 110 = .ok (.getfield 60, 3) := by decide +kernel
theorem dX12_arrive_113 : decode cX12_arrive 113 = .ok (.iload_n 2, 1) := by decide +kernel
theorem dX12_arrive_114 : decode cX12_arrive 114 = .ok (.iaload, 1) := by decide +kernel
theorem dX12_arrive_115 : decode cX12_arrive 115 = .ok (.aload_n 0, 1) := by decide +kernel
theorem dX12_arrive_116 : decode cX12_arrive 116 = .ok (.getfield 78, 3) := by decide +kernel
theorem dX12_arrive_119 : decode cX12_arrive 119 = .ok (.iload_n 2, 1) := by decide +kernel
theorem dX12_arrive_120 : decode cX12_arrive 120 = .ok (.baload, 1) := by decide +kernel
theorem dX12_arrive_121 : decode cX12_arrive 121 = .ok (.aload_n 0, 1) := by decide +kernel
theorem dX12_arrive_122 : decode cX12_arrive 122 = .ok (.getfield 63, 3) := by decide +kernel
theorem dX12_arrive_125 : decode cX12_arrive 125 = .ok (.iload_n 2, 1) := by decide +kernel
theorem dX12_arrive_126 : decode cX12_arrive 126 = .ok (.iaload, 1) := by decide +kernel
theorem dX12_arrive_127 : decode cX12_arrive 127 = .ok (.invokevirtual 355, 3) := by decide +kernel
theorem dX12_arrive_130 : decode cX12_arrive 130 = .ok (.return_, 1) := by decide +kernel
theorem dX12_arrive_131 : decode cX12_arrive 131 = .ok (.aload_n 0, 1) := by decide +kernel
theorem dX12_arrive_132 : decode cX12_arrive 132 = .ok (.getfield 85, 3) := by decide +kernel
theorem dX12_arrive_135 : decode cX12_arrive 135 = .ok (.iload 4, 2) := by decide +kernel
theorem dX12_arrive_137 : decode cX12_arrive 137 = .ok (.baload, 1) := by decide +kernel
theorem dX12_arrive_138 : decode cX12_arrive 138 = .ok (.ifCond .eq 14, 3) := by decide +kernel
theorem dX12_arrive_141 : decode cX12_arrive 141 = .ok (.aload_n 0, 1) := by decide +kernel
theorem dX12_arrive_142 : decode cX12_arrive 142 = .ok (.dup, 1) := by decide +kernel
theorem dX12_arrive_143 : decode cX12_arrive 143 = .ok (.getfield 238, 3) := by decide +kernel
theorem dX12_arrive_146 : decode cX12_arrive 146 = .ok (.iconst 1, 1) := by decide +kernel
theorem dX12_arrive_147 : decode cX12_arrive 147 = .ok (.iadd, 1) := by decide +kernel
theorem dX12_arrive_148 : decode cX12_arrive 148 = .ok (.putfield 238, 3) := by decide +kernel
theorem dX12_arrive_151 : decode cX12_arrive 151 = .ok (.return_, 1) := by decide +kernel
theorem dX12_arrive_152 : decode cX12_arrive 152 = .ok (.iload_n 3, 1) := by decide +kernel
theorem dX12_arrive_153 : decode cX12_arrive 153 = .ok (.ifCond .ne 26, 3) := by decide +kernel
theorem dX12_arrive_156 : decode cX12_arrive 156 = .ok (.aload_n 0, 1) := by decide +kernel
theorem dX12_arrive_157 : decode cX12_arrive 157 = .ok (.iload 4, 2) := by decide +kernel
theorem dX12_arrive_159 : decode cX12_arrive 159 = .ok (.iload 7, 2) := by decide +kernel
theorem dX12_arrive_161 : decode cX12_arrive 161 = .ok (.aload_n 0, 1) := by decide +kernel
theorem dX12_arrive_162 : decode cX12_arrive 162 = .ok (.getfield 57, 3) := by decide +kernel
theorem dX12_arrive_165 : decode cX12_arrive 165 = .ok (.iload_n 2, 1) := by decide +kernel
theorem dX12_arrive_166 : decode cX12_arrive 166 = .ok (.iaload, 1) := by decide +kernel
theorem dX12_arrive_167 : decode cX12_arrive 167 = .ok (.aload_n 0, 1) := by decide +kernel
theorem dX12_arrive_168 : decode cX12_arrive 168 = .ok (.getfield 60, 3) := by decide +kernel
theorem dX12_arrive_171 : decode cX12_arrive 171 = .ok (.iload_n 2, 1) := by decide +kernel
theorem dX12_arrive_172 : decode cX12_arrive 172 = .ok (.iaload, 1) := by decide +kernel
theorem dX12_arrive_173 : decode cX12_arrive 173 = .ok (.invokevirtual 359, 3) := by decide +kernel
theorem dX12_arrive_176 : decode cX12_arrive 176 = .ok (.goto 135, 3) := by decide +kernel
theorem dX12_arrive_179 : decode cX12_arrive 179 = .ok (.iload_n 3, 1) := by decide +kernel
theorem dX12_arrive_180 : decode cX12_arrive 180 = .ok (.bipush 8, 2) := by decide +kernel
theorem dX12_arrive_182 : decode cX12_arrive 182 = .ok (.if_icmp .ne 16, 3) := by decide +kernel
theorem dX12_arrive_185 : decode cX12_arrive 185 = .ok (.aload_n 0, 1) := by decide +kernel
theorem dX12_arrive_186 : decode cX12_arrive 186 = .ok (.iload 4, 2) := by decide +kernel
theorem dX12_arrive_188 : decode cX12_arrive 188 = .ok (.iload 6, 2) := by decide +kernel
theorem dX12_arrive_190 : decode cX12_arrive 190 = .ok (.iload 7, 2) := by decide +kernel
theorem dX12_arrive_192 : decode cX12_arrive 192 = .ok (.invokevirtual 325, 3) := by decide +kernel
theorem dX12_arrive_195 : decode cX12_arrive 195 = .ok (.goto 116, 3) := by decide +kernel
theorem dX12_arrive_198 : decode cX12_arrive 198 = .ok (.iload_n 3, 1) := by decide +kernel
theorem dX12_arrive_199 : decode cX12_arrive 199 = .ok (.bipush 9, 2) := by decide +kernel
theorem dX12_arrive_201 : decode cX12_arrive 201 = .ok (.if_icmp .ne 38, 3) := by decide +kernel
theorem dX12_arrive_204 : decode cX12_arrive 204 = .ok (.aload_n 0, 1) := by decide +kernel
theorem dX12_arrive_205 : decode cX12_arrive 205 = .ok (.iload 4, 2) := by decide +kernel
theorem dX12_arrive_207 : decode cX12_arrive 207 = .ok (.iload 5, 2) := by decide +kernel
theorem dX12_arrive_209 : decode cX12_arrive 209 = .ok (.iload 6, 2) := by decide +kernel
theorem dX12_arrive_211 : decode cX12_arrive 211 = .ok (.iload 7, 2) := by decide +kernel
theorem dX12_arrive_213 : decode cX12_arrive 213 = .ok (.aload_n 0, 1) := by decide +kernel
theorem dX12_arrive_214 : decode cX12_arrive 214 = .ok (.getfield 66, 3) := by decide +kernel
theorem dX12_arrive_217 : decode cX12_arrive 217 = .ok (.iload_n 2, 1) := by decide +kernel
theorem dX12_arrive_218 : decode cX12_arrive 218 = .ok (.iaload, 1) := by decide +kernel
theorem dX12_arrive_219 : decode cX12_arrive 219 = .ok (.aload_n 0, 1) := by decide +kernel
theorem dX12_arrive_220 : decode cX12_arrive 220 = .ok (.getfield 69, 3) := by decide +kernel
theorem dX12_arrive_223 : decode cX12_arrive 223 = .ok (.iload_n 2, 1) := by decide +kernel
theorem dX12_arrive_224 : decode cX12_arrive 224 = .ok (.iaload, 1) := by decide +kernel
theorem dX12_arrive_225 : decode cX12_arrive 225 = .ok (.aload_n 0, 1) := by decide +kernel
theorem dX12_arrive_226 : decode cX12_arrive 226 = .ok (.getfield 72, 3) := by decide +kernel
theorem dX12_arrive_229 : decode cX12_arrive 229 = .ok (.iload_n 2, 1) := by decide +kernel
theorem dX12_arrive_230 : decode cX12_arrive 230 = .ok (.iaload, 1) := by decide +kernel
theorem dX12_arrive_231 : decode cX12_arrive 231 = .ok (.iload 8, 2) := by decide +kernel
theorem dX12_arrive_233 : decode cX12_arrive 233 = .ok (.invokevirtual 363, 3) := by decide +kernel
theorem dX12_arrive_236 : decode cX12_arrive 236 = .ok (.goto 75, 3) := by decide +kernel
theorem dX12_arrive_239 : decode cX12_arrive 239 = .ok (.iload_n 3, 1) := by decide +kernel
theorem dX12_arrive_240 : decode cX12_arrive 240 = .ok (.bipush 10, 2) := by decide +kernel
theorem dX12_arrive_242 : decode cX12_arrive 242 = .ok (.if_icmp .ne 24, 3) := by decide +kernel
theorem dX12_arrive_245 : decode cX12_arrive 245 = .ok (.aload_n 0, 1) := by decide +kernel
theorem dX12_arrive_246 : decode cX12_arrive 246 = .ok (.iload 4, 2) := by decide +kernel
theorem dX12_arrive_248 : decode cX12_arrive 248 = .ok (.iload 6, 2) := by decide +kernel
theorem dX12_arrive_250 : decode cX12_arrive 250 = .ok (.iload 7, 2) := by decide +kernel
theorem dX12_arrive_252 : decode cX12_arrive 252 = .ok (.aload_n 0, 1) := by decide +kernel
theorem dX12_arrive_253 : decode cX12_arrive 253 = .ok (.getfield 72, 3) := by decide +kernel
theorem dX12_arrive_256 : decode cX12_arrive 256 = .ok (.iload_n 2, 1) := by decide +kernel
theorem dX12_arrive_257 : decode cX12_arrive 257 = .ok (.iaload, 1) := by decide +kernel
theorem dX12_arrive_258 : decode cX12_arrive 258 = .ok (.iload 8, 2) := by decide +kernel
theorem dX12_arrive_260 : decode cX12_arrive 260 = .ok (.invokevirtual 367, 3) := by decide +kernel
theorem dX12_arrive_263 : decode cX12_arrive 263 = .ok (.goto 48, 3) := by decide +kernel
theorem dX12_arrive_266 : decode cX12_arrive 266 = .ok (.iload 6, 2) := by decide +kernel
theorem dX12_arrive_268 : decode cX12_arrive 268 = .ok (.aload_n 0, 1) := by decide +kernel
theorem dX12_arrive_269 : decode cX12_arrive 269 = .ok (.getfield 88, 3) := by decide +kernel
theorem dX12_arrive_272 : decode cX12_arrive 272 = .ok (.iload 4, 2) := by decide +kernel
theorem dX12_arrive_274 : decode cX12_arrive 274 = .ok (.iaload, 1) := by decide +kernel
theorem dX12_arrive_275 : decode cX12_arrive 275 = .ok (.if_icmp .ne 36, 3) := by decide +kernel
theorem dX12_arrive_278 : decode cX12_arrive 278 = .ok (.iload 7, 2) := by decide +kernel
theorem dX12_arrive_280 : decode cX12_arrive 280 = .ok (.aload_n 0, 1) := by decide +kernel
theorem dX12_arrive_281 : decode cX12_arrive 281 = .ok (.getfield 91, 3) := by decide +kernel
theorem dX12_arrive_284 : decode cX12_arrive 284 = .ok (.iload 4, 2) := by decide +kernel
theorem dX12_arrive_286 : decode cX12_arrive 286 = .ok (.iaload, 1) := by decide +kernel
theorem dX12_arrive_287 : decode cX12_arrive 287 = .ok (.if_icmp .ne 24, 3) := by decide +kernel
theorem dX12_arrive_290 : decode cX12_arrive 290 = .ok (.aload_n 0, 1) := by decide +kernel
theorem dX12_arrive_291 : decode cX12_arrive 291 = .ok (.iload_n 3, 1) := by decide +kernel
theorem dX12_arrive_292 : decode cX12_arrive 292 = .ok (.iload 4, 2) := by decide +kernel
theorem dX12_arrive_294 : decode cX12_arrive 294 = .ok (.iload 5, 2) := by decide +kernel
theorem dX12_arrive_296 : decode cX12_arrive 296 = .ok (.aload_n 0, 1) := by decide +kernel
theorem dX12_arrive_297 : decode cX12_arrive 297 = .ok (.getfield 57, 3) := by decide +kernel
theorem dX12_arrive_300 : decode cX12_arrive 300 = .ok (.iload_n 2, 1) := by decide +kernel
theorem dX12_arrive_301 : decode cX12_arrive 301 = .ok (.iaload, 1) := by decide +kernel
theorem dX12_arrive_302 : decode cX12_arrive 302 = .ok (.aload_n 0, 1) := by decide +kernel
theorem dX12_arrive_303 : decode cX12_arrive 303 = .ok (.getfield 60, 3) := by decide +kernel
theorem dX12_arrive_306 : decode cX12_arrive 306 = .ok (.iload_n 2, 1) := by decide +kernel
theorem dX12_arrive_307 : decode cX12_arrive 307 = .ok (.iaload, 1) := by decide +kernel
theorem dX12_arrive_308 : decode cX12_arrive 308 = .ok (.invokevirtual 371, 3) := by decide +kernel
theorem dX12_arrive_311 : decode cX12_arrive 311 = .ok (.return_, 1) := by decide +kernel
theorem dX12_request_0 : decode cX12_request 0 = .ok (.aload_n 0, 1) := by decide +kernel
theorem dX12_request_1 : decode cX12_request 1 = .ok (.iload_n 1, 1) := by decide +kernel
theorem dX12_request_2 : decode cX12_request 2 = .ok (.iconst 4, 1) := by decide +kernel
theorem dX12_request_3 : decode cX12_request 3 = .ok (.invokestatic 374, 3) := by decide +kernel
theorem dX12_request_6 : decode cX12_request 6 = .ok (.ifCond .eq 12, 3) := by decide +kernel
theorem dX12_request_9 : decode cX12_request 9 = .ok (.iload_n 3, 1) := by decide +kernel
theorem dX12_request_10 : decode cX12_request 10 = .ok (.bipush 8, 2) := by decide +kernel
theorem dX12_request_12 : decode cX12_request 12 = .ok (.invokestatic 374, 3) := by decide +kernel
theorem dX12_request_15 : decode cX12_request 15 = .ok (.ifCond .ne 7, 3) := by decide +kernel
theorem dX12_request_18 : decode cX12_request 18 = .ok (.iconst 1, 1) := by decide +kernel
theorem dX12_request_19 : decode cX12_request 19 = .ok (.goto 30, 3) := by decide +kernel
theorem dX12_request_22 : decode cX12_request 22 = .ok (.iload_n 2, 1) := by decide +kernel
theorem dX12_request_23 : decode cX12_request 23 = .ok (.iconst 3, 1) := by decide +kernel
theorem dX12_request_24 : decode cX12_request 24 = .ok (.invokestatic 374, 3) := by decide +kernel
theorem dX12_request_27 : decode cX12_request 27 = .ok (.ifCond .ne 7, 3) := by decide +kernel
theorem dX12_request_30 : decode cX12_request 30 = .ok (.iconst 2, 1) := by decide +kernel
theorem dX12_request_31 : decode cX12_request 31 = .ok (.goto 18, 3) := by decide +kernel
theorem dX12_request_34 : decode cX12_request 34 = .ok (.aload_n 0, 1) := by decide +kernel
theorem dX12_request_35 : decode cX12_request 35 = .ok (.getfield 166, 3) := by decide +kernel
theorem dX12_request_38 : decode cX12_request 38 = .ok (.iload_n 1, 1) := by decide +kernel
theorem dX12_request_39 : decode cX12_request 39 = .ok (.iaload, 1) := by decide +kernel
theorem dX12_request_40 : decode cX12_request 40 = .ok (.iconst 1, 1) := by decide +kernel
theorem dX12_request_41 : decode cX12_request 41 = .ok (.if_icmp .ne 7, 3) := by decide +kernel
theorem dX12_request_44 : decode cX12_request 44 = .ok (.iconst 3, 1) := by decide +kernel
theorem dX12_request_45 : decode cX12_request 45 = .ok (.goto 4, 3) := by decide +kernel
theorem dX12_request_48 : decode cX12_request 48 = .ok (.iconst 0, 1) := by decide +kernel
theorem dX12_request_49 : decode cX12_request 49 = .ok (.putfield 229, 3) := by decide +kernel
theorem dX12_request_52 : decode cX12_request 52 = .ok (.aload_n 0, 1) := by decide +kernel
theorem dX12_request_53 : decode cX12_request 53 = .ok (.getfield 229, 3) := by decide +kernel
theorem dX12_request_56 : decode cX12_request 56 = .ok (.ifCond .le 5, 3) := by decide +kernel
theorem dX12_request_59 : decode cX12_request 59 = .ok (.iconst 0, 1) := by decide +kernel
theorem dX12_request_60 : decode cX12_request 60 = .ok (.ireturn, 1) := by decide +kernel
theorem dX12_request_61 : decode cX12_request 61 = .ok (.aload_n 0, 1) := by decide +kernel
theorem dX12_request_62 : decode cX12_request 62 = .ok (.dup, 1) := by decide +kernel
theorem dX12_request_63 : decode cX12_request 63 = .ok (.getfield 377, 3) := by decide +kernel
theorem dX12_request_66 : decode cX12_request 66 = .ok (.iconst 1, 1) := by decide +kernel
theorem dX12_request_67 : decode cX12_request 67 = .ok (.iadd, 1) := by decide +kernel
theorem dX12_request_68 : decode cX12_request 68 = .ok (.putfield 377, 3) := by decide +kernel
theorem dX12_request_71 : decode cX12_request 71 = .ok (.aload_n 0, 1) := by decide +kernel
theorem dX12_request_72 : decode cX12_request 72 = .ok (.getfield 160, 3) := by decide +kernel
theorem dX12_request_75 : decode cX12_request 75 = .ok (.iload_n 1, 1) := by decide +kernel
theorem dX12_request_76 : decode cX12_request 76 = .ok (.dup2, 1) := by decide +kernel
theorem dX12_request_77 : decode cX12_request 77 = .ok (.iaload, 1) := by decide +kernel
theorem dX12_request_78 : decode cX12_request 78 = .ok (.iconst 1, 1) := by decide +kernel
theorem dX12_request_79 : decode cX12_request 79 = .ok (.iadd, 1) := by decide +kernel
theorem dX12_request_80 : decode cX12_request 80 = .ok (.iastore, 1) := by decide +kernel
theorem dX12_request_81 : decode cX12_request 81 = .ok (.aload_n 0, 1) := by decide +kernel
theorem dX12_request_82 : decode cX12_request 82 = .ok (.getfield 7, 3) := by decide +kernel
theorem dX12_request_85 : decode cX12_request 85 = .ok (.aload_n 0, 1) := by decide +kernel
theorem dX12_request_86 : decode cX12_request 86 = .ok (.getfield 377, 3) := by decide +kernel
theorem dX12_request_89 : decode cX12_request 89 = .ok (.iload_n 1, 1) := by decide +kernel
theorem dX12_request_90 : decode cX12_request 90 = .ok (.iastore, 1) := by decide +kernel
theorem dX12_request_91 : decode cX12_request 91 = .ok (.aload_n 0, 1) := by decide +kernel
theorem dX12_request_92 : decode cX12_request 92 = .ok (.getfield 13, 3) := by decide +kernel
theorem dX12_request_95 : decode cX12_request 95 = .ok (.aload_n 0, 1) := by decide +kernel
theorem dX12_request_96 : decode cX12_request 96 = .ok (.getfield 377, 3) := by decide +kernel
theorem dX12_request_99 : decode cX12_request 99 = .ok (.aload_n 0, 1) := by decide +kernel
theorem dX12_request_100 : decode cX12_request 100 = .ok (.getfield 160, 3) := by decide +kernel
theorem dX12_request_103 : decode cX12_request 103 = .ok (.iload_n 1, 1) := by decide +kernel
theorem dX12_request_104 : decode cX12_request 104 = .ok (.iaload, 1) := by decide +kernel
theorem dX12_request_105 : decode cX12_request 105 = .ok (.iastore, 1) := by decide +kernel
theorem dX12_request_106 : decode cX12_request 106 = .ok (.aload_n 0, 1) := by decide +kernel
theorem dX12_request_107 : decode cX12_request 107 = .ok (.getfield 16, 3) := by decide +kernel
theorem dX12_request_110 : decode cX12_request 110 = .ok (.aload_n 0, 1) := by decide +kernel
theorem dX12_request_111 : decode cX12_request 111 = .ok (.getfield 377, 3) := by decide +kernel
theorem dX12_request_114 : decode cX12_request 114 = .ok (.iload_n 2, 1) := by decide +kernel
theorem dX12_request_115 : decode cX12_request 115 = .ok (.iastore, 1) := by decide +kernel
theorem dX12_request_116 : decode cX12_request 116 = .ok (.aload_n 0, 1) := by decide +kernel
theorem dX12_request_117 : decode cX12_request 117 = .ok (.getfield 19, 3) := by decide +kernel
theorem dX12_request_120 : decode cX12_request 120 = .ok (.aload_n 0, 1) := by decide +kernel
theorem dX12_request_121 : decode cX12_request 121 = .ok (.getfield 377, 3) := by decide +kernel
theorem dX12_request_124 : decode cX12_request 124 = .ok (.iload_n 3, 1) := by decide +kernel
theorem dX12_request_125 : decode cX12_request 125 = .ok (.iastore, 1) := by decide +kernel
theorem dX12_request_126 : decode cX12_request 126 = .ok (.aload_n 0, 1) := by decide +kernel
theorem dX12_request_127 : decode cX12_request 127 = .ok (.getfield 22, 3) := by decide +kernel
theorem dX12_request_130 : decode cX12_request 130 = .ok (.aload_n 0, 1) := by decide +kernel
theorem dX12_request_131 : decode cX12_request 131 = .ok (.getfield 377, 3) := by decide +kernel
theorem dX12_request_134 : decode cX12_request 134 = .ok (.iload 4, 2) := by decide +kernel
theorem dX12_request_136 : decode cX12_request 136 = .ok (.iastore, 1) := by decide +kernel
theorem dX12_request_137 : decode cX12_request 137 = .ok (.aload_n 0, 1) := by decide +kernel
theorem dX12_request_138 : decode cX12_request 138 = .ok (.getfield 163, 3) := by decide +kernel
theorem dX12_request_141 : decode cX12_request 141 = .ok (.iload_n 1, 1) := by decide +kernel
theorem dX12_request_142 : decode cX12_request 142 = .ok (.aload_n 0, 1) := by decide +kernel
theorem dX12_request_143 : decode cX12_request 143 = .ok (.getfield 377, 3) := by decide +kernel
theorem dX12_request_146 : decode cX12_request 146 = .ok (.iastore, 1) := by decide +kernel
theorem dX12_request_147 : decode cX12_request 147 = .ok (.aload_n 0, 1) := by decide +kernel
theorem dX12_request_148 : decode cX12_request 148 = .ok (.getfield 166, 3) := by decide +kernel
theorem dX12_request_151 : decode cX12_request 151 = .ok (.iload_n 1, 1) := by decide +kernel
theorem dX12_request_152 : decode cX12_request 152 = .ok (.iconst 1, 1) := by decide +kernel
theorem dX12_request_153 : decode cX12_request 153 = .ok (.iastore, 1) := by decide +kernel
theorem dX12_request_154 : decode cX12_request 154 = .ok (.aload_n 0, 1) := by decide +kernel
theorem dX12_request_155 : decode cX12_request 155 = .ok (.getfield 181, 3) := by decide +kernel
theorem dX12_request_158 : decode cX12_request 158 = .ok (.iload_n 1, 1) := by decide +kernel
theorem dX12_request_159 : decode cX12_request 159 = .ok (.iconst 0, 1) := by decide +kernel
theorem dX12_request_160 : decode cX12_request 160 = .ok (.iastore, 1) := by decide +kernel
theorem dX12_request_161 : decode cX12_request 161 = .ok (.aload_n 0, 1) := by decide +kernel
theorem dX12_request_162 : decode cX12_request 162 = .ok (.aload_n 0, 1) := by decide +kernel
theorem dX12_request_163 : decode cX12_request 163 = .ok (.getfield 377, 3) := by decide +kernel
theorem dX12_request_166 : decode cX12_request 166 = .ok (.invokevirtual 380, 3) := by decide +kernel
theorem dX12_request_169 : decode cX12_request 169 = .ok (.aload_n 0, 1) := by decide +kernel
theorem dX12_request_170 : decode cX12_request 170 = .ok (.getfield 160, 3) := by decide +kernel
theorem dX12_request_173 : decode cX12_request 173 = .ok (.iload_n 1, 1) := by decide +kernel
theorem dX12_request_174 : decode cX12_request 174 = .ok (.iaload, 1) := by decide +kernel
theorem dX12_request_175 : decode cX12_request 175 = .ok (.ireturn, 1) := by decide +kernel
theorem dX12_again_0 : decode cX12_again 0 = .ok (.aload_n 0, 1) := by decide +kernel
theorem dX12_again_1 : decode cX12_again 1 = .ok (.iload_n 1, 1) := by decide +kernel
theorem dX12_again_2 : decode cX12_again 2 = .ok (.iconst 4, 1) := by decide +kernel
theorem dX12_again_3 : decode cX12_again 3 = .ok (.invokestatic 374, 3) := by decide +kernel
theorem dX12_again_6 : decode cX12_again 6 = .ok (.ifCond .ne 7, 3) := by decide +kernel
theorem dX12_again_9 : decode cX12_again 9 = .ok (.iconst 1, 1) := by decide +kernel
theorem dX12_again_10 : decode cX12_again 10 = .ok (.goto 18, 3) := by decide +kernel
theorem dX12_again_13 : decode cX12_again 13 = .ok (.aload_n 0, 1) := by decide +kernel
theorem dX12_again_14 : decode cX12_again 14 = .ok (.getfield 166, 3) := by decide +kernel
theorem dX12_again_17 : decode cX12_again 17 = .ok (.iload_n 1, 1) := by decide +kernel
theorem dX12_again_18 : decode cX12_again 18 = .ok (.iaload, 1) := by decide +kernel
theorem dX12_again_19 : decode cX12_again 19 = .ok (.iconst 1, 1) := by decide +kernel
theorem dX12_again_20 : decode cX12_again 20 = .ok (.if_icmp .eq 7, 3) := by decide +kernel
theorem dX12_again_23 : decode cX12_again 23 = .ok (.iconst 2, 1) := by decide +kernel
theorem dX12_again_24 : decode cX12_again 24 = .ok (.goto 4, 3) := by decide +kernel
theorem dX12_again_27 : decode cX12_again 27 = .ok (.iconst 0, 1) := by decide +kernel
theorem dX12_again_28 : decode cX12_again 28 = .ok (.putfield 229, 3) := by decide +kernel
theorem dX12_again_31 : decode cX12_again 31 = .ok (.aload_n 0, 1) := by decide +kernel
theorem dX12_again_32 : decode cX12_again 32 = .ok (.getfield 229, 3) := by decide +kernel
theorem dX12_again_35 : decode cX12_again 35 = .ok (.ifCond .ne 13, 3) := by decide +kernel
theorem dX12_again_38 : decode cX12_again 38 = .ok (.aload_n 0, 1) := by decide +kernel
theorem dX12_again_39 : decode cX12_again 39 = .ok (.aload_n 0, 1) := by decide +kernel
theorem dX12_again_40 : decode cX12_again 40 = .ok (.getfield 163, 3) := by decide +kernel
theorem dX12_again_43 : decode cX12_again 43 = .ok (.iload_n 1, 1) := by decide +kernel
theorem dX12_again_44 : decode cX12_again 44 = .ok (.iaload, 1) := by decide +kernel
theorem dX12_again_45 : decode cX12_again 45 = .ok (.invokevirtual 380, 3) := by decide +kernel
theorem dX12_again_48 : decode cX12_again 48 = .ok (.return_, 1) := by decide +kernel
theorem dX12_deliver_0 : decode cX12_deliver 0 = .ok (.aload_n 0, 1) := by decide +kernel
theorem dX12_deliver_1 : decode cX12_deliver 1 = .ok (.iload_n 1, 1) := by decide +kernel
theorem dX12_deliver_2 : decode cX12_deliver 2 = .ok (.invokevirtual 383, 3) := by decide +kernel
theorem dX12_deliver_5 : decode cX12_deliver 5 = .ok (.istore_n 2, 1) := by decide +kernel
theorem dX12_deliver_6 : decode cX12_deliver 6 = .ok (.aload_n 0, 1) := by decide +kernel
theorem dX12_deliver_7 : decode cX12_deliver 7 = .ok (.iload_n 2, 1) := by decide +kernel
theorem dX12_deliver_8 : decode cX12_deliver 8 = .ok (.iconst (-1), 1) := by decide +kernel
theorem dX12_deliver_9 : decode cX12_deliver 9 = .ok (.if_icmp .ne 7, 3) := by decide +kernel
theorem dX12_deliver_12 : decode cX12_deliver 12 = .ok (.iconst 1, 1) := by decide +kernel
theorem dX12_deliver_13 : decode cX12_deliver 13 = .ok (.goto 4, 3) := by decide +kernel
theorem dX12_deliver_16 : decode cX12_deliver 16 = .ok (.iconst 0, 1) := by decide +kernel
theorem dX12_deliver_17 : decode cX12_deliver 17 = .ok (.putfield 229, 3) := by decide +kernel
theorem dX12_deliver_20 : decode cX12_deliver 20 = .ok (.aload_n 0, 1) := by decide +kernel
theorem dX12_deliver_21 : decode cX12_deliver 21 = .ok (.getfield 229, 3) := by decide +kernel
theorem dX12_deliver_24 : decode cX12_deliver 24 = .ok (.ifCond .ne 8, 3) := by decide +kernel
theorem dX12_deliver_27 : decode cX12_deliver 27 = .ok (.aload_n 0, 1) := by decide +kernel
theorem dX12_deliver_28 : decode cX12_deliver 28 = .ok (.iload_n 2, 1) := by decide +kernel
theorem dX12_deliver_29 : decode cX12_deliver 29 = .ok (.invokevirtual 386, 3) := by decide +kernel
theorem dX12_deliver_32 : decode cX12_deliver 32 = .ok (.return_, 1) := by decide +kernel
theorem dX12_lose_0 : decode cX12_lose 0 = .ok (.aload_n 0, 1) := by decide +kernel
theorem dX12_lose_1 : decode cX12_lose 1 = .ok (.iload_n 1, 1) := by decide +kernel
theorem dX12_lose_2 : decode cX12_lose 2 = .ok (.invokevirtual 383, 3) := by decide +kernel
theorem dX12_lose_5 : decode cX12_lose 5 = .ok (.istore_n 2, 1) := by decide +kernel
theorem dX12_lose_6 : decode cX12_lose 6 = .ok (.aload_n 0, 1) := by decide +kernel
theorem dX12_lose_7 : decode cX12_lose 7 = .ok (.iload_n 2, 1) := by decide +kernel
theorem dX12_lose_8 : decode cX12_lose 8 = .ok (.iconst (-1), 1) := by decide +kernel
theorem dX12_lose_9 : decode cX12_lose 9 = .ok (.if_icmp .ne 7, 3) := by decide +kernel
theorem dX12_lose_12 : decode cX12_lose 12 = .ok (.iconst 1, 1) := by decide +kernel
theorem dX12_lose_13 : decode cX12_lose 13 = .ok (.goto 4, 3) := by decide +kernel
theorem dX12_lose_16 : decode cX12_lose 16 = .ok (.iconst 0, 1) := by decide +kernel
theorem dX12_lose_17 : decode cX12_lose 17 = .ok (.putfield 229, 3) := by decide +kernel
theorem dX12_lose_20 : decode cX12_lose 20 = .ok (.aload_n 0, 1) := by decide +kernel
theorem dX12_lose_21 : decode cX12_lose 21 = .ok (.getfield 229, 3) := by decide +kernel
theorem dX12_lose_24 : decode cX12_lose 24 = .ok (.ifCond .le 4, 3) := by decide +kernel
theorem dX12_lose_27 : decode cX12_lose 27 = .ok (.return_, 1) := by decide +kernel
theorem dX12_lose_28 : decode cX12_lose 28 = .ok (.aload_n 0, 1) := by decide +kernel
theorem dX12_lose_29 : decode cX12_lose 29 = .ok (.iload_n 2, 1) := by decide +kernel
theorem dX12_lose_30 : decode cX12_lose 30 = .ok (.invokevirtual 352, 3) := by decide +kernel
theorem dX12_lose_33 : decode cX12_lose 33 = .ok (.istore_n 3, 1) := by decide +kernel
theorem dX12_lose_34 : decode cX12_lose 34 = .ok (.aload_n 0, 1) := by decide +kernel
theorem dX12_lose_35 : decode cX12_lose 35 = .ok (.dup, 1) := by decide +kernel
theorem dX12_lose_36 : decode cX12_lose 36 = .ok (.getfield 238, 3) := by decide +kernel
theorem dX12_lose_39 : decode cX12_lose 39 = .ok (.iconst 1, 1) := by decide +kernel
theorem dX12_lose_40 : decode cX12_lose 40 = .ok (.iadd, 1) := by decide +kernel
theorem dX12_lose_41 : decode cX12_lose 41 = .ok (.putfield 238, 3) := by decide +kernel
theorem dX12_lose_44 : decode cX12_lose 44 = .ok (.return_, 1) := by decide +kernel
theorem dX12_flow_0 : decode cX12_flow 0 = .ok (.aload_n 0, 1) := by decide +kernel
theorem dX12_flow_1 : decode cX12_flow 1 = .ok (.iload_n 1, 1) := by decide +kernel
theorem dX12_flow_2 : decode cX12_flow 2 = .ok (.bipush 41, 2) := by decide +kernel
theorem dX12_flow_4 : decode cX12_flow 4 = .ok (.invokestatic 374, 3) := by decide +kernel
theorem dX12_flow_7 : decode cX12_flow 7 = .ok (.ifCond .ne 7, 3) := by decide +kernel
theorem dX12_flow_10 : decode cX12_flow 10 = .ok (.iconst 1, 1) := by decide +kernel
theorem dX12_flow_11 : decode cX12_flow 11 = .ok (.goto 4, 3) := by decide +kernel
theorem dX12_flow_14 : decode cX12_flow 14 = .ok (.iconst 0, 1) := by decide +kernel
theorem dX12_flow_15 : decode cX12_flow 15 = .ok (.putfield 229, 3) := by decide +kernel
theorem dX12_flow_18 : decode cX12_flow 18 = .ok (.iconst 0, 1) := by decide +kernel
theorem dX12_flow_19 : decode cX12_flow 19 = .ok (.istore_n 2, 1) := by decide +kernel
theorem dX12_flow_20 : decode cX12_flow 20 = .ok (.aload_n 0, 1) := by decide +kernel
theorem dX12_flow_21 : decode cX12_flow 21 = .ok (.getfield 229, 3) := by decide +kernel
theorem dX12_flow_24 : decode cX12_flow 24 = .ok (.ifCond .ne 26, 3) := by decide +kernel
theorem dX12_flow_27 : decode cX12_flow 27 = .ok (.iload_n 2, 1) := by decide +kernel
theorem dX12_flow_28 : decode cX12_flow 28 = .ok (.iload_n 1, 1) := by decide +kernel
theorem dX12_flow_29 : decode cX12_flow 29 = .ok (.if_icmp .ge 21, 3) := by decide +kernel
theorem dX12_flow_32 : decode cX12_flow 32 = .ok (.aload_n 0, 1) := by decide +kernel
theorem dX12_flow_33 : decode cX12_flow 33 = .ok (.getfield 235, 3) := by decide +kernel
theorem dX12_flow_36 : decode cX12_flow 36 = .ok (.ifCond .le 14, 3) := by decide +kernel
theorem dX12_flow_39 : decode cX12_flow 39 = .ok (.aload_n 0, 1) := by decide +kernel
theorem dX12_flow_40 : decode cX12_flow 40 = .ok (.iconst 0, 1) := by decide +kernel
theorem dX12_flow_41 : decode cX12_flow 41 = .ok (.invokevirtual 386, 3) := by decide +kernel
theorem dX12_flow_44 : decode cX12_flow 44 = .ok (.iinc 2 1, 3) := by decide +kernel
theorem dX12_flow_47 : decode cX12_flow 47 = .ok (.goto (-27), 3) := by decide +kernel
theorem dX12_flow_50 : decode cX12_flow 50 = .ok (.iload_n 2, 1) := by decide +kernel
theorem dX12_flow_51 : decode cX12_flow 51 = .ok (.ireturn, 1) := by decide +kernel
theorem dX12_down_0 : decode cX12_down 0 = .ok (.iconst 0, 1) := by decide +kernel
theorem dX12_down_1 : decode cX12_down 1 = .ok (.istore_n 2, 1) := by decide +kernel
theorem dX12_down_2 : decode cX12_down 2 = .ok (.iconst 0, 1) := by decide +kernel
theorem dX12_down_3 : decode cX12_down 3 = .ok (.istore_n 3, 1) := by decide +kernel
theorem dX12_down_4 : decode cX12_down 4 = .ok (.iload_n 3, 1) := by decide +kernel
theorem dX12_down_5 : decode cX12_down 5 = .ok (.aload_n 0, 1) := by decide +kernel
theorem dX12_down_6 : decode cX12_down 6 = .ok (.getfield 223, 3) := by decide +kernel
theorem dX12_down_9 : decode cX12_down 9 = .ok (.if_icmp .ge 26, 3) := by decide +kernel
theorem dX12_down_12 : decode cX12_down 12 = .ok (.iload_n 2, 1) := by decide +kernel
theorem dX12_down_13 : decode cX12_down 13 = .ok (.aload_n 0, 1) := by decide +kernel
theorem dX12_down_14 : decode cX12_down 14 = .ok (.getfield 85, 3) := by decide +kernel
theorem dX12_down_17 : decode cX12_down 17 = .ok (.iload_n 3, 1) := by decide +kernel
theorem dX12_down_18 : decode cX12_down 18 = .ok (.baload, 1) := by decide +kernel
theorem dX12_down_19 : decode cX12_down 19 = .ok (.ifCond .eq 7, 3) := by decide +kernel
theorem dX12_down_22 : decode cX12_down 22 = .ok (.iconst 1, 1) := by decide +kernel
theorem dX12_down_23 : decode cX12_down 23 = .ok (.goto 4, 3) := by decide +kernel
theorem dX12_down_26 : decode cX12_down 26 = .ok (.iconst 0, 1) := by decide +kernel
theorem dX12_down_27 : decode cX12_down 27 = .ok (.iadd, 1) := by decide +kernel
theorem dX12_down_28 : decode cX12_down 28 = .ok (.istore_n 2, 1) := by decide +kernel
theorem dX12_down_29 : decode cX12_down 29 = .ok (.iinc 3 1, 3) := by decide +kernel
theorem dX12_down_32 : decode cX12_down 32 = .ok (.goto (-28), 3) := by decide +kernel
theorem dX12_down_35 : decode cX12_down 35 = .ok (.aload_n 0, 1) := by decide +kernel
theorem dX12_down_36 : decode cX12_down 36 = .ok (.iload_n 1, 1) := by decide +kernel
theorem dX12_down_37 : decode cX12_down 37 = .ok (.aload_n 0, 1) := by decide +kernel
theorem dX12_down_38 : decode cX12_down 38 = .ok (.getfield 223, 3) := by decide +kernel
theorem dX12_down_41 : decode cX12_down 41 = .ok (.invokestatic 374, 3) := by decide +kernel
theorem dX12_down_44 : decode cX12_down 44 = .ok (.ifCond .ne 7, 3) := by decide +kernel
theorem dX12_down_47 : decode cX12_down 47 = .ok (.iconst 1, 1) := by decide +kernel
theorem dX12_down_48 : decode cX12_down 48 = .ok (.goto 25, 3) := by decide +kernel
theorem dX12_down_51 : decode cX12_down 51 = .ok (.aload_n 0, 1) := by decide +kernel
theorem dX12_down_52 : decode cX12_down 52 = .ok (.getfield 85, 3) := by decide +kernel
theorem dX12_down_55 : decode cX12_down 55 = .ok (.iload_n 1, 1) := by decide +kernel
theorem dX12_down_56 : decode cX12_down 56 = .ok (.baload, 1) := by decide +kernel
theorem dX12_down_57 : decode cX12_down 57 = .ok (.ifCond .ne 11, 3) := by decide +kernel
theorem dX12_down_60 : decode cX12_down 60 = .ok (.iload_n 2, 1) := by decide +kernel
theorem dX12_down_61 : decode cX12_down 61 = .ok (.aload_n 0, 1) := by decide +kernel
theorem dX12_down_62 : decode cX12_down 62 = .ok (.getfield 226, 3) := by decide +kernel
theorem dX12_down_65 : decode cX12_down 65 = .ok (.if_icmp .ne 7, 3) := by decide +kernel
theorem dX12_down_68 : decode cX12_down 68 = .ok (.iconst 2, 1) := by decide +kernel
theorem dX12_down_69 : decode cX12_down 69 = .ok (.goto 4, 3) := by decide +kernel
theorem dX12_down_72 : decode cX12_down 72 = .ok (.iconst 0, 1) := by decide +kernel
theorem dX12_down_73 : decode cX12_down 73 = .ok (.putfield 229, 3) := by decide +kernel
theorem dX12_down_76 : decode cX12_down 76 = .ok (.aload_n 0, 1) := by decide +kernel
theorem dX12_down_77 : decode cX12_down 77 = .ok (.getfield 229, 3) := by decide +kernel
theorem dX12_down_80 : decode cX12_down 80 = .ok (.ifCond .le 4, 3) := by decide +kernel
theorem dX12_down_83 : decode cX12_down 83 = .ok (.return_, 1) := by decide +kernel
theorem dX12_down_84 : decode cX12_down 84 = .ok (.aload_n 0, 1) := by decide +kernel
theorem dX12_down_85 : decode cX12_down 85 = .ok (.getfield 85, 3) := by decide +kernel
theorem dX12_down_88 : decode cX12_down 88 = .ok (.iload_n 1, 1) := by decide +kernel
theorem dX12_down_89 : decode cX12_down 89 = .ok (.iconst 1, 1) := by decide +kernel
theorem dX12_down_90 : decode cX12_down 90 = .ok (.bastore, 1) := by decide +kernel
theorem dX12_down_91 : decode cX12_down 91 = .ok (.aload_n 0, 1) := by decide +kernel
theorem dX12_down_92 : decode cX12_down 92 = .ok (.iload_n 1, 1) := by decide +kernel
theorem dX12_down_93 : decode cX12_down 93 = .ok (.invokevirtual 280, 3) := by decide +kernel
theorem dX12_down_96 : decode cX12_down 96 = .ok (.return_, 1) := by decide +kernel
theorem dX12_up_0 : decode cX12_up 0 = .ok (.aload_n 0, 1) := by decide +kernel
theorem dX12_up_1 : decode cX12_up 1 = .ok (.iload_n 1, 1) := by decide +kernel
theorem dX12_up_2 : decode cX12_up 2 = .ok (.aload_n 0, 1) := by decide +kernel
theorem dX12_up_3 : decode cX12_up 3 = .ok (.getfield 223, 3) := by decide +kernel
theorem dX12_up_6 : decode cX12_up 6 = .ok (.invokestatic 374, 3) := by decide +kernel
theorem dX12_up_9 : decode cX12_up 9 = .ok (.ifCond .ne 7, 3) := by decide +kernel
theorem dX12_up_12 : decode cX12_up 12 = .ok (.iconst 1, 1) := by decide +kernel
theorem dX12_up_13 : decode cX12_up 13 = .ok (.goto 17, 3) := by decide +kernel
theorem dX12_up_16 : decode cX12_up 16 = .ok (.aload_n 0, 1) := by decide +kernel
theorem dX12_up_17 : decode cX12_up 17 = .ok (.getfield 85, 3) := by decide +kernel
theorem dX12_up_20 : decode cX12_up 20 = .ok (.iload_n 1, 1) := by decide +kernel
theorem dX12_up_21 : decode cX12_up 21 = .ok (.baload, 1) := by decide +kernel
theorem dX12_up_22 : decode cX12_up 22 = .ok (.ifCond .ne 7, 3) := by decide +kernel
theorem dX12_up_25 : decode cX12_up 25 = .ok (.iconst 2, 1) := by decide +kernel
theorem dX12_up_26 : decode cX12_up 26 = .ok (.goto 4, 3) := by decide +kernel
theorem dX12_up_29 : decode cX12_up 29 = .ok (.iconst 0, 1) := by decide +kernel
theorem dX12_up_30 : decode cX12_up 30 = .ok (.putfield 229, 3) := by decide +kernel
theorem dX12_up_33 : decode cX12_up 33 = .ok (.aload_n 0, 1) := by decide +kernel
theorem dX12_up_34 : decode cX12_up 34 = .ok (.getfield 229, 3) := by decide +kernel
theorem dX12_up_37 : decode cX12_up 37 = .ok (.ifCond .ne 10, 3) := by decide +kernel
theorem dX12_up_40 : decode cX12_up 40 = .ok (.aload_n 0, 1) := by decide +kernel
theorem dX12_up_41 : decode cX12_up 41 = .ok (.getfield 85, 3) := by decide +kernel
theorem dX12_up_44 : decode cX12_up 44 = .ok (.iload_n 1, 1) := by decide +kernel
theorem dX12_up_45 : decode cX12_up 45 = .ok (.iconst 0, 1) := by decide +kernel
theorem dX12_up_46 : decode cX12_up 46 = .ok (.bastore, 1) := by decide +kernel
theorem dX12_up_47 : decode cX12_up 47 = .ok (.return_, 1) := by decide +kernel
theorem dX12_may_0 : decode cX12_may 0 = .ok (.aload_n 0, 1) := by decide +kernel
theorem dX12_may_1 : decode cX12_may 1 = .ok (.iload_n 1, 1) := by decide +kernel
theorem dX12_may_2 : decode cX12_may 2 = .ok (.aload_n 0, 1) := by decide +kernel
theorem dX12_may_3 : decode cX12_may 3 = .ok (.getfield 223, 3) := by decide +kernel
theorem dX12_may_6 : decode cX12_may 6 = .ok (.invokestatic 374, 3) := by decide +kernel
theorem dX12_may_9 : decode cX12_may 9 = .ok (.ifCond .ne 7, 3) := by decide +kernel
theorem dX12_may_12 : decode cX12_may 12 = .ok (.iconst 1, 1) := by decide +kernel
theorem dX12_may_13 : decode cX12_may 13 = .ok (.goto 17, 3) := by decide +kernel
theorem dX12_may_16 : decode cX12_may 16 = .ok (.aload_n 0, 1) := by decide +kernel
theorem dX12_may_17 : decode cX12_may 17 = .ok (.getfield 85, 3) := by decide +kernel
theorem dX12_may_20 : decode cX12_may 20 = .ok (.iload_n 1, 1) := by decide +kernel
theorem dX12_may_21 : decode cX12_may 21 = .ok (.baload, 1) := by decide +kernel
theorem dX12_may_22 : decode cX12_may 22 = .ok (.ifCond .eq 7, 3) := by decide +kernel
theorem dX12_may_25 : decode cX12_may 25 = .ok (.iconst 2, 1) := by decide +kernel
theorem dX12_may_26 : decode cX12_may 26 = .ok (.goto 4, 3) := by decide +kernel
theorem dX12_may_29 : decode cX12_may 29 = .ok (.iconst 0, 1) := by decide +kernel
theorem dX12_may_30 : decode cX12_may 30 = .ok (.putfield 229, 3) := by decide +kernel
theorem dX12_may_33 : decode cX12_may 33 = .ok (.aload_n 0, 1) := by decide +kernel
theorem dX12_may_34 : decode cX12_may 34 = .ok (.getfield 229, 3) := by decide +kernel
theorem dX12_may_37 : decode cX12_may 37 = .ok (.ifCond .ne 7, 3) := by decide +kernel
theorem dX12_may_40 : decode cX12_may 40 = .ok (.iconst 1, 1) := by decide +kernel
theorem dX12_may_41 : decode cX12_may 41 = .ok (.goto 4, 3) := by decide +kernel
theorem dX12_may_44 : decode cX12_may 44 = .ok (.iconst 0, 1) := by decide +kernel
theorem dX12_may_45 : decode cX12_may 45 = .ok (.ireturn, 1) := by decide +kernel
theorem dX12_suspect_0 : decode cX12_suspect 0 = .ok (.aload_n 0, 1) := by decide +kernel
theorem dX12_suspect_1 : decode cX12_suspect 1 = .ok (.iload_n 1, 1) := by decide +kernel
theorem dX12_suspect_2 : decode cX12_suspect 2 = .ok (.invokevirtual 389, 3) := by decide +kernel
theorem dX12_suspect_5 : decode cX12_suspect 5 = .ok (.ifCond .eq 22, 3) := by decide +kernel
theorem dX12_suspect_8 : decode cX12_suspect 8 = .ok (.aload_n 0, 1) := by decide +kernel
theorem dX12_suspect_9 : decode cX12_suspect 9 = .ok (.iload_n 1, 1) := by decide +kernel
theorem dX12_suspect_10 : decode cX12_suspect 10 = .ok (.aload_n 0, 1) := by decide +kernel
theorem dX12_suspect_11 : decode cX12_suspect 11 = .ok (.getfield 88, 3) := by decide +kernel
theorem dX12_suspect_14 : decode cX12_suspect 14 = .ok (.iload_n 1, 1) := by decide +kernel
theorem dX12_suspect_15 : decode cX12_suspect 15 = .ok (.iaload, 1) := by decide +kernel
theorem dX12_suspect_16 : decode cX12_suspect 16 = .ok (.iconst 1, 1) := by decide +kernel
theorem dX12_suspect_17 : decode cX12_suspect 17 = .ok (.iadd, 1) := by decide +kernel
theorem dX12_suspect_18 : decode cX12_suspect 18 = .ok (.aload_n 0, 1) := by decide +kernel
theorem dX12_suspect_19 : decode cX12_suspect 19 = .ok (.getfield 91, 3) := by decide +kernel
theorem dX12_suspect_22 : decode cX12_suspect 22 = .ok (.iload_n 1, 1) := by decide +kernel
theorem dX12_suspect_23 : decode cX12_suspect 23 = .ok (.iaload, 1) := by decide +kernel
theorem dX12_suspect_24 : decode cX12_suspect 24 = .ok (.invokevirtual 312, 3) := by decide +kernel
theorem dX12_suspect_27 : decode cX12_suspect 27 = .ok (.return_, 1) := by decide +kernel
theorem dX12_nudge_0 : decode cX12_nudge 0 = .ok (.aload_n 0, 1) := by decide +kernel
theorem dX12_nudge_1 : decode cX12_nudge 1 = .ok (.iload_n 1, 1) := by decide +kernel
theorem dX12_nudge_2 : decode cX12_nudge 2 = .ok (.invokevirtual 389, 3) := by decide +kernel
theorem dX12_nudge_5 : decode cX12_nudge 5 = .ok (.ifCond .ne 5, 3) := by decide +kernel
theorem dX12_nudge_8 : decode cX12_nudge 8 = .ok (.iconst 0, 1) := by decide +kernel
theorem dX12_nudge_9 : decode cX12_nudge 9 = .ok (.ireturn, 1) := by decide +kernel
theorem dX12_nudge_10 : decode cX12_nudge 10 = .ok (.aload_n 0, 1) := by decide +kernel
theorem dX12_nudge_11 : decode cX12_nudge 11 = .ok (.getfield 232, 3) := by decide +kernel
theorem dX12_nudge_14 : decode cX12_nudge 14 = .ok (.istore_n 2, 1) := by decide +kernel
theorem dX12_nudge_15 : decode cX12_nudge 15 = .ok (.aload_n 0, 1) := by decide +kernel
theorem dX12_nudge_16 : decode cX12_nudge 16 = .ok (.getfield 94, 3) := by decide +kernel
theorem dX12_nudge_19 : decode cX12_nudge 19 = .ok (.iload_n 1, 1) := by decide +kernel
theorem dX12_nudge_20 : decode cX12_nudge 20 = .ok (.iaload, 1) := by decide +kernel
theorem dX12_nudge_21 : decode cX12_nudge 21 = .ok (.iconst 1, 1) := by decide +kernel
theorem dX12_nudge_22 : decode cX12_nudge 22 = .ok (.if_icmp .ne 18, 3) := by decide +kernel
theorem dX12_nudge_25 : decode cX12_nudge 25 = .ok (.aload_n 0, 1) := by decide +kernel
theorem dX12_nudge_26 : decode cX12_nudge 26 = .ok (.iconst 3, 1) := by decide +kernel
theorem dX12_nudge_27 : decode cX12_nudge 27 = .ok (.iload_n 1, 1) := by decide +kernel
theorem dX12_nudge_28 : decode cX12_nudge 28 = .ok (.aload_n 0, 1) := by decide +kernel
theorem dX12_nudge_29 : decode cX12_nudge 29 = .ok (.getfield 103, 3) := by decide +kernel
theorem dX12_nudge_32 : decode cX12_nudge 32 = .ok (.iload_n 1, 1) := by decide +kernel
theorem dX12_nudge_33 : decode cX12_nudge 33 = .ok (.iaload, 1) := by decide +kernel
theorem dX12_nudge_34 : decode cX12_nudge 34 = .ok (.invokevirtual 273, 3) := by decide +kernel
theorem dX12_nudge_37 : decode cX12_nudge 37 = .ok (.goto 87, 3) := by decide +kernel
theorem dX12_nudge_40 : decode cX12_nudge 40 = .ok (.aload_n 0, 1) := by decide +kernel
theorem dX12_nudge_41 : decode cX12_nudge 41 = .ok (.getfield 94, 3) := by decide +kernel
theorem dX12_nudge_44 : decode cX12_nudge 44 = .ok (.iload_n 1, 1) := by decide +kernel
theorem dX12_nudge_45 : decode cX12_nudge 45 = .ok (.iaload, 1) := by decide +kernel
theorem dX12_nudge_46 : decode cX12_nudge 46 = .ok (.iconst 2, 1) := by decide +kernel
theorem dX12_nudge_47 : decode cX12_nudge 47 = .ok (.if_icmp .ne 27, 3) := by decide +kernel
theorem dX12_nudge_50 : decode cX12_nudge 50 = .ok (.aload_n 0, 1) := by decide +kernel
theorem dX12_nudge_51 : decode cX12_nudge 51 = .ok (.bipush 8, 2) := by decide +kernel
theorem dX12_nudge_53 : decode cX12_nudge 53 = .ok (.iload_n 1, 1) := by decide +kernel
theorem dX12_nudge_54 : decode cX12_nudge 54 = .ok (.iconst 0, 1) := by decide +kernel
theorem dX12_nudge_55 : decode cX12_nudge 55 = .ok (.invokevirtual 273, 3) := by decide +kernel
theorem dX12_nudge_58 : decode cX12_nudge 58 = .ok (.aload_n 0, 1) := by decide +kernel
theorem dX12_nudge_59 : decode cX12_nudge 59 = .ok (.iload_n 1, 1) := by decide +kernel
theorem dX12_nudge_60 : decode cX12_nudge 60 = .ok (.invokevirtual 248, 3) := by decide +kernel
theorem dX12_nudge_63 : decode cX12_nudge 63 = .ok (.ifCond .ne 61, 3) := by decide +kernel
theorem dX12_nudge_66 : decode cX12_nudge 66 = .ok (.aload_n 0, 1) := by decide +kernel
theorem dX12_nudge_67 : decode cX12_nudge 67 = .ok (.iload_n 1, 1) := by decide +kernel
theorem dX12_nudge_68 : decode cX12_nudge 68 = .ok (.invokevirtual 284, 3) := by decide +kernel
theorem dX12_nudge_71 : decode cX12_nudge 71 = .ok (.goto 53, 3) := by decide +kernel
theorem dX12_nudge_74 : decode cX12_nudge 74 = .ok (.aload_n 0, 1) := by decide +kernel
theorem dX12_nudge_75 : decode cX12_nudge 75 = .ok (.iload_n 1, 1) := by decide +kernel
theorem dX12_nudge_76 : decode cX12_nudge 76 = .ok (.invokevirtual 248, 3) := by decide +kernel
theorem dX12_nudge_79 : decode cX12_nudge 79 = .ok (.ifCond .ne 45, 3) := by decide +kernel
theorem dX12_nudge_82 : decode cX12_nudge 82 = .ok (.aload_n 0, 1) := by decide +kernel
theorem dX12_nudge_83 : decode cX12_nudge 83 = .ok (.getfield 118, 3) := by decide +kernel
theorem dX12_nudge_86 : decode cX12_nudge 86 = .ok (.iload_n 1, 1) := by decide +kernel
theorem dX12_nudge_87 : decode cX12_nudge 87 = .ok (.iaload, 1) := by decide +kernel
theorem dX12_nudge_88 : decode cX12_nudge 88 = .ok (.ifCond .le 36, 3) := by decide +kernel
theorem dX12_nudge_91 : decode cX12_nudge 91 = .ok (.aload_n 0, 1) := by decide +kernel
theorem dX12_nudge_92 : decode cX12_nudge 92 = .ok (.iconst 1, 1) := by decide +kernel
theorem dX12_nudge_93 : decode cX12_nudge 93 = .ok (.iload_n 1, 1) := by decide +kernel
theorem dX12_nudge_94 : decode cX12_nudge 94 = .ok (.aload_n 0, 1) := by decide +kernel
theorem dX12_nudge_95 : decode cX12_nudge 95 = .ok (.iload_n 1, 1) := by decide +kernel
theorem dX12_nudge_96 : decode cX12_nudge 96 = .ok (.invokevirtual 269, 3) := by decide +kernel
theorem dX12_nudge_99 : decode cX12_nudge 99 = .ok (.aload_n 0, 1) := by decide +kernel
theorem dX12_nudge_100 : decode cX12_nudge 100 = .ok (.getfield 88, 3) := by decide +kernel
theorem dX12_nudge_103 : decode cX12_nudge 103 = .ok (.iload_n 1, 1) := by decide +kernel
theorem dX12_nudge_104 : decode cX12_nudge 104 = .ok (.iaload, 1) := by decide +kernel
theorem dX12_nudge_105 : decode cX12_nudge 105 = .ok (.aload_n 0, 1) := by decide +kernel
theorem dX12_nudge_106 : decode cX12_nudge 106 = .ok (.getfield 91, 3) := by decide +kernel
theorem dX12_nudge_109 : decode cX12_nudge 109 = .ok (.iload_n 1, 1) := by decide +kernel
theorem dX12_nudge_110 : decode cX12_nudge 110 = .ok (.iaload, 1) := by decide +kernel
theorem dX12_nudge_111 : decode cX12_nudge 111 = .ok (.aload_n 0, 1) := by decide +kernel
theorem dX12_nudge_112 : decode cX12_nudge 112 = .ok (.getfield 103, 3) := by decide +kernel
theorem dX12_nudge_115 : decode cX12_nudge 115 = .ok (.iload_n 1, 1) := by decide +kernel
theorem dX12_nudge_116 : decode cX12_nudge 116 = .ok (.iaload, 1) := by decide +kernel
theorem dX12_nudge_117 : decode cX12_nudge 117 = .ok (.iconst 1, 1) := by decide +kernel
theorem dX12_nudge_118 : decode cX12_nudge 118 = .ok (.iadd, 1) := by decide +kernel
theorem dX12_nudge_119 : decode cX12_nudge 119 = .ok (.iconst 0, 1) := by decide +kernel
theorem dX12_nudge_120 : decode cX12_nudge 120 = .ok (.invokevirtual 241, 3) := by decide +kernel
theorem dX12_nudge_123 : decode cX12_nudge 123 = .ok (.pop, 1) := by decide +kernel
theorem dX12_nudge_124 : decode cX12_nudge 124 = .ok (.aload_n 0, 1) := by decide +kernel
theorem dX12_nudge_125 : decode cX12_nudge 125 = .ok (.getfield 232, 3) := by decide +kernel
theorem dX12_nudge_128 : decode cX12_nudge 128 = .ok (.iload_n 2, 1) := by decide +kernel
theorem dX12_nudge_129 : decode cX12_nudge 129 = .ok (.isub, 1) := by decide +kernel
theorem dX12_nudge_130 : decode cX12_nudge 130 = .ok (.ireturn, 1) := by decide +kernel
theorem dX12_sync__0 : decode cX12_sync_ 0 = .ok (.iload_n 1, 1) := by decide +kernel
theorem dX12_sync__1 : decode cX12_sync_ 1 = .ok (.istore_n 2, 1) := by decide +kernel
theorem dX12_sync__2 : decode cX12_sync_ 2 = .ok (.aload_n 0, 1) := by decide +kernel
theorem dX12_sync__3 : decode cX12_sync_ 3 = .ok (.iload_n 2, 1) := by decide +kernel
theorem dX12_sync__4 : decode cX12_sync_ 4 = .ok (.aload_n 0, 1) := by decide +kernel
theorem dX12_sync__5 : decode cX12_sync_ 5 = .ok (.getfield 223, 3) := by decide +kernel
theorem dX12_sync__8 : decode cX12_sync_ 8 = .ok (.invokestatic 374, 3) := by decide +kernel
theorem dX12_sync__11 : decode cX12_sync_ 11 = .ok (.ifCond .ne 7, 3) := by decide +kernel
theorem dX12_sync__14 : decode cX12_sync_ 14 = .ok (.iconst 1, 1) := by decide +kernel
theorem dX12_sync__15 : decode cX12_sync_ 15 = .ok (.goto 34, 3) := by decide +kernel
theorem dX12_sync__18 : decode cX12_sync_ 18 = .ok (.aload_n 0, 1) := by decide +kernel
theorem dX12_sync__19 : decode cX12_sync_ 19 = .ok (.getfield 85, 3) := by decide +kernel
theorem dX12_sync__22 : decode cX12_sync_ 22 = .ok (.iload_n 2, 1) := by decide +kernel
theorem dX12_sync__23 : decode cX12_sync_ 23 = .ok (.baload, 1) := by decide +kernel
theorem dX12_sync__24 : decode cX12_sync_ 24 = .ok (.ifCond .ne 20, 3) := by decide +kernel
theorem dX12_sync__27 : decode cX12_sync_ 27 = .ok (.aload_n 0, 1) := by decide +kernel
theorem dX12_sync__28 : decode cX12_sync_ 28 = .ok (.iload_n 2, 1) := by decide +kernel
theorem dX12_sync__29 : decode cX12_sync_ 29 = .ok (.invokevirtual 248, 3) := by decide +kernel
theorem dX12_sync__32 : decode cX12_sync_ 32 = .ok (.ifCond .eq 12, 3) := by decide +kernel
theorem dX12_sync__35 : decode cX12_sync_ 35 = .ok (.aload_n 0, 1) := by decide +kernel
theorem dX12_sync__36 : decode cX12_sync_ 36 = .ok (.getfield 94, 3) := by decide +kernel
theorem dX12_sync__39 : decode cX12_sync_ 39 = .ok (.iload_n 2, 1) := by decide +kernel
theorem dX12_sync__40 : decode cX12_sync_ 40 = .ok (.iaload, 1) := by decide +kernel
theorem dX12_sync__41 : decode cX12_sync_ 41 = .ok (.ifCond .eq 7, 3) := by decide +kernel
theorem dX12_sync__44 : decode cX12_sync_ 44 = .ok (.iconst 2, 1) := by decide +kernel
theorem dX12_sync__45 : decode cX12_sync_ 45 = .ok (.goto 4, 3) := by decide +kernel
theorem dX12_sync__48 : decode cX12_sync_ 48 = .ok (.iconst 0, 1) := by decide +kernel
theorem dX12_sync__49 : decode cX12_sync_ 49 = .ok (.putfield 229, 3) := by decide +kernel
theorem dX12_sync__52 : decode cX12_sync_ 52 = .ok (.aload_n 0, 1) := by decide +kernel
theorem dX12_sync__53 : decode cX12_sync_ 53 = .ok (.getfield 229, 3) := by decide +kernel
theorem dX12_sync__56 : decode cX12_sync_ 56 = .ok (.ifCond .le 4, 3) := by decide +kernel
theorem dX12_sync__59 : decode cX12_sync_ 59 = .ok (.return_, 1) := by decide +kernel
theorem dX12_sync__60 : decode cX12_sync_ 60 = .ok (.iconst 0, 1) := by decide +kernel
theorem dX12_sync__61 : decode cX12_sync_ 61 = .ok (.istore_n 3, 1) := by decide +kernel
theorem dX12_sync__62 : decode cX12_sync_ 62 = .ok (.iload_n 3, 1) := by decide +kernel
theorem dX12_sync__63 : decode cX12_sync_ 63 = .ok (.aload_n 0, 1) := by decide +kernel
theorem dX12_sync__64 : decode cX12_sync_ 64 = .ok (.getfield 223, 3) := by decide +kernel
theorem dX12_sync__67 : decode cX12_sync_ 67 = .ok (.if_icmp .ge 51, 3) := by decide +kernel
theorem dX12_sync__70 : decode cX12_sync_ 70 = .ok (.iload_n 3, 1) := by decide +kernel
theorem dX12_sync__71 : decode cX12_sync_ 71 = .ok (.iload_n 2, 1) := by decide +kernel
theorem dX12_sync__72 : decode cX12_sync_ 72 = .ok (.if_icmp .eq 40, 3) := by decide +kernel
theorem dX12_sync__75 : decode cX12_sync_ 75 = .ok (.aload_n 0, 1) := by decide +kernel
theorem dX12_sync__76 : decode cX12_sync_ 76 = .ok (.aload_n 0, 1) := by decide +kernel
theorem dX12_sync__77 : decode cX12_sync_ 77 = .ok (.iconst 5, 1) := by decide +kernel
theorem dX12_sync__78 : decode cX12_sync_ 78 = .ok (.iload_n 2, 1) := by decide +kernel
theorem dX12_sync__79 : decode cX12_sync_ 79 = .ok (.iload_n 3, 1) := by decide +kernel
theorem dX12_sync__80 : decode cX12_sync_ 80 = .ok (.aload_n 0, 1) := by decide +kernel
theorem dX12_sync__81 : decode cX12_sync_ 81 = .ok (.getfield 88, 3) := by decide +kernel
theorem dX12_sync__84 : decode cX12_sync_ 84 = .ok (.iload_n 2, 1) := by decide +kernel
theorem dX12_sync__85 : decode cX12_sync_ 85 = .ok (.iaload, 1) := by decide +kernel
theorem dX12_sync__86 : decode cX12_sync_ 86 = .ok (.aload_n 0, 1) := by decide +kernel
theorem dX12_sync__87 : decode cX12_sync_ 87 = .ok (.getfield 91, 3) := by decide +kernel
theorem dX12_sync__90 : decode cX12_sync_ 90 = .ok (.iload_n 2, 1) := by decide +kernel
theorem dX12_sync__91 : decode cX12_sync_ 91 = .ok (.iaload, 1) := by decide +kernel
theorem dX12_sync__92 : decode cX12_sync_ 92 = .ok (.aload_n 0, 1) := by decide +kernel
theorem dX12_sync__93 : decode cX12_sync_ 93 = .ok (.getfield 103, 3) := by decide +kernel
theorem dX12_sync__96 : decode cX12_sync_ 96 = .ok (.iload_n 2, 1) := by decide +kernel
theorem dX12_sync__97 : decode cX12_sync_ 97 = .ok (.iaload, 1) := by decide +kernel
theorem dX12_sync__98 : decode cX12_sync_ 98 = .ok (.iconst 0, 1) := by decide +kernel
theorem dX12_sync__99 : decode cX12_sync_ 99 = .ok (.invokevirtual 241, 3) := by decide +kernel
theorem dX12_sync__102 : decode cX12_sync_ 102 = .ok (.iload_n 2, 1) := by decide +kernel
theorem dX12_sync__103 : decode cX12_sync_ 103 = .ok (.aload_n 0, 1) := by decide +kernel
theorem dX12_sync__104 : decode cX12_sync_ 104 = .ok (.getfield 103, 3) := by decide +kernel
theorem dX12_sync__107 : decode cX12_sync_ 107 = .ok (.iload_n 2, 1) := by decide +kernel
theorem dX12_sync__108 : decode cX12_sync_ 108 = .ok (.iaload, 1) := by decide +kernel
theorem dX12_sync__109 : decode cX12_sync_ 109 = .ok (.invokevirtual 277, 3) := by decide +kernel
theorem dX12_sync__112 : decode cX12_sync_ 112 = .ok (.iinc 3 1, 3) := by decide +kernel
theorem dX12_sync__115 : decode cX12_sync_ 115 = .ok (.goto (-53), 3) := by decide +kernel
theorem dX12_sync__118 : decode cX12_sync_ 118 = .ok (.return_, 1) := by decide +kernel
theorem dX12_fail_0 : decode cX12_fail 0 = .ok (.aload_n 0, 1) := by decide +kernel
theorem dX12_fail_1 : decode cX12_fail 1 = .ok (.iconst 0, 1) := by decide +kernel
theorem dX12_fail_2 : decode cX12_fail 2 = .ok (.putfield 229, 3) := by decide +kernel
theorem dX12_fail_5 : decode cX12_fail 5 = .ok (.aload_n 0, 1) := by decide +kernel
theorem dX12_fail_6 : decode cX12_fail 6 = .ok (.getfield 25, 3) := by decide +kernel
theorem dX12_fail_9 : decode cX12_fail 9 = .ok (.istore_n 1, 1) := by decide +kernel
theorem dX12_fail_10 : decode cX12_fail 10 = .ok (.aload_n 0, 1) := by decide +kernel
theorem dX12_fail_11 : decode cX12_fail 11 = .ok (.iconst 0, 1) := by decide +kernel
theorem dX12_fail_12 : decode cX12_fail 12 = .ok (.putfield 25, 3) := by decide +kernel
theorem dX12_fail_15 : decode cX12_fail 15 = .ok (.iload_n 1, 1) := by decide +kernel
theorem dX12_fail_16 : decode cX12_fail 16 = .ok (.ireturn, 1) := by decide +kernel
theorem dX12_install_0 : decode cX12_install 0 = .ok (.aload_n 0, 1) := by decide +kernel
theorem dX12_install_1 : decode cX12_install 1 = .ok (.iconst 0, 1) := by decide +kernel
theorem dX12_install_2 : decode cX12_install 2 = .ok (.putfield 229, 3) := by decide +kernel
theorem dX12_install_5 : decode cX12_install 5 = .ok (.aload_n 0, 1) := by decide +kernel
theorem dX12_install_6 : decode cX12_install 6 = .ok (.iconst 1, 1) := by decide +kernel
theorem dX12_install_7 : decode cX12_install 7 = .ok (.putfield 25, 3) := by decide +kernel
theorem dX12_install_10 : decode cX12_install 10 = .ok (.aload_n 0, 1) := by decide +kernel
theorem dX12_install_11 : decode cX12_install 11 = .ok (.dup, 1) := by decide +kernel
theorem dX12_install_12 : decode cX12_install 12 = .ok (.getfield 29, 3) := by decide +kernel
theorem dX12_install_15 : decode cX12_install 15 = .ok (.iconst 1, 1) := by decide +kernel
theorem dX12_install_16 : decode cX12_install 16 = .ok (.iadd, 1) := by decide +kernel
theorem dX12_install_17 : decode cX12_install 17 = .ok (.putfield 29, 3) := by decide +kernel
theorem dX12_install_20 : decode cX12_install 20 = .ok (.aload_n 0, 1) := by decide +kernel
theorem dX12_install_21 : decode cX12_install 21 = .ok (.iconst 0, 1) := by decide +kernel
theorem dX12_install_22 : decode cX12_install 22 = .ok (.putfield 245, 3) := by decide +kernel
theorem dX12_install_25 : decode cX12_install 25 = .ok (.aload_n 0, 1) := by decide +kernel
theorem dX12_install_26 : decode cX12_install 26 = .ok (.getfield 29, 3) := by decide +kernel
theorem dX12_install_29 : decode cX12_install 29 = .ok (.ireturn, 1) := by decide +kernel
theorem dX12_replica_0 : decode cX12_replica 0 = .ok (.aload_n 0, 1) := by decide +kernel
theorem dX12_replica_1 : decode cX12_replica 1 = .ok (.iconst 0, 1) := by decide +kernel
theorem dX12_replica_2 : decode cX12_replica 2 = .ok (.putfield 229, 3) := by decide +kernel
theorem dX12_replica_5 : decode cX12_replica 5 = .ok (.iload_n 1, 1) := by decide +kernel
theorem dX12_replica_6 : decode cX12_replica 6 = .ok (.aload_n 0, 1) := by decide +kernel
theorem dX12_replica_7 : decode cX12_replica 7 = .ok (.getfield 223, 3) := by decide +kernel
theorem dX12_replica_10 : decode cX12_replica 10 = .ok (.invokestatic 374, 3) := by decide +kernel
theorem dX12_replica_13 : decode cX12_replica 13 = .ok (.ifCond .ne 5, 3) := by decide +kernel
theorem dX12_replica_16 : decode cX12_replica 16 = .ok (.iconst (-1), 1) := by decide +kernel
theorem dX12_replica_17 : decode cX12_replica 17 = .ok (.ireturn, 1) := by decide +kernel
theorem dX12_replica_18 : decode cX12_replica 18 = .ok (.iload_n 2, 1) := by decide +kernel
theorem dX12_replica_19 : decode cX12_replica 19 = .ok (.tableswitch 142 0 10 #[57, 72, 79, 86, 93, 100, 107, 114, 121, 128, 135], 57) := by decide +kernel
theorem dX12_replica_76 : decode cX12_replica 76 = .ok (.aload_n 0, 1) := by decide +kernel
theorem dX12_replica_77 : decode cX12_replica 77 = .ok (.getfield 85, 3) := by decide +kernel
theorem dX12_replica_80 : decode cX12_replica 80 = .ok (.iload_n 1, 1) := by decide +kernel
theorem dX12_replica_81 : decode cX12_replica 81 = .ok (.baload, 1) := by decide +kernel
theorem dX12_replica_82 : decode cX12_replica 82 = .ok (.ifCond .eq 7, 3) := by decide +kernel
theorem dX12_replica_85 : decode cX12_replica 85 = .ok (.iconst 1, 1) := by decide +kernel
theorem dX12_replica_86 : decode cX12_replica 86 = .ok (.goto 4, 3) := by decide +kernel
theorem dX12_replica_89 : decode cX12_replica 89 = .ok (.iconst 0, 1) := by decide +kernel
theorem dX12_replica_90 : decode cX12_replica 90 = .ok (.ireturn, 1) := by decide +kernel
theorem dX12_replica_91 : decode cX12_replica 91 = .ok (.aload_n 0, 1) := by decide +kernel
theorem dX12_replica_92 : decode cX12_replica 92 = .ok (.getfield 94, 3) := by decide +kernel
theorem dX12_replica_95 : decode cX12_replica 95 = .ok (.iload_n 1, 1) := by decide +kernel
theorem dX12_replica_96 : decode cX12_replica 96 = .ok (.iaload, 1) := by decide +kernel
theorem dX12_replica_97 : decode cX12_replica 97 = .ok (.ireturn, 1) := by decide +kernel
theorem dX12_replica_98 : decode cX12_replica 98 = .ok (.aload_n 0, 1) := by decide +kernel
theorem dX12_replica_99 : decode cX12_replica 99 = .ok (.getfield 88, 3) := by decide +kernel
theorem dX12_replica_102 : decode cX12_replica 102 = .ok (.iload_n 1, 1) := by decide +kernel
theorem dX12_replica_103 : decode cX12_replica 103 = .ok (.iaload, 1) := by decide +kernel
theorem dX12_replica_104 : decode cX12_replica 104 = .ok (.ireturn, 1) := by decide +kernel
theorem dX12_replica_105 : decode cX12_replica 105 = .ok (.aload_n 0, 1) := by decide +kernel
theorem dX12_replica_106 : decode cX12_replica 106 = .ok (.getfield 91, 3) := by decide +kernel
theorem dX12_replica_109 : decode cX12_replica 109 = .ok (.iload_n 1, 1) := by decide +kernel
theorem dX12_replica_110 : decode cX12_replica 110 = .ok (.iaload, 1) := by decide +kernel
theorem dX12_replica_111 : decode cX12_replica 111 = .ok (.ireturn, 1) := by decide +kernel
theorem dX12_replica_112 : decode cX12_replica 112 = .ok (.aload_n 0, 1) := by decide +kernel
theorem dX12_replica_113 : decode cX12_replica 113 = .ok (.getfield 106, 3) := by decide +kernel
theorem dX12_replica_116 : decode cX12_replica 116 = .ok (.iload_n 1, 1) := by decide +kernel
theorem dX12_replica_117 : decode cX12_replica 117 = .ok (.iaload, 1) := by decide +kernel
theorem dX12_replica_118 : decode cX12_replica 118 = .ok (.ireturn, 1) := by decide +kernel
theorem dX12_replica_119 : decode cX12_replica 119 = .ok (.aload_n 0, 1) := by decide +kernel
theorem dX12_replica_120 : decode cX12_replica 120 = .ok (.getfield 103, 3) := by decide +kernel
theorem dX12_replica_123 : decode cX12_replica 123 = .ok (.iload_n 1, 1) := by decide +kernel
theorem dX12_replica_124 : decode cX12_replica 124 = .ok (.iaload, 1) := by decide +kernel
theorem dX12_replica_125 : decode cX12_replica 125 = .ok (.ireturn, 1) := by decide +kernel
theorem dX12_replica_126 : decode cX12_replica 126 = .ok (.aload_n 0, 1) := by decide +kernel
theorem dX12_replica_127 : decode cX12_replica 127 = .ok (.getfield 109, 3) := by decide +kernel
theorem dX12_replica_130 : decode cX12_replica 130 = .ok (.iload_n 1, 1) := by decide +kernel
theorem dX12_replica_131 : decode cX12_replica 131 = .ok (.iaload, 1) := by decide +kernel
theorem dX12_replica_132 : decode cX12_replica 132 = .ok (.ireturn, 1) := by decide +kernel
theorem dX12_replica_133 : decode cX12_replica 133 = .ok (.aload_n 0, 1) := by decide +kernel
theorem dX12_replica_134 : decode cX12_replica 134 = .ok (.getfield 118, 3) := by decide +kernel
theorem dX12_replica_137 : decode cX12_replica 137 = .ok (.iload_n 1, 1) := by decide +kernel
theorem dX12_replica_138 : decode cX12_replica 138 = .ok (.iaload, 1) := by decide +kernel
theorem dX12_replica_139 : decode cX12_replica 139 = .ok (.ireturn, 1) := by decide +kernel
theorem dX12_replica_140 : decode cX12_replica 140 = .ok (.aload_n 0, 1) := by decide +kernel
theorem dX12_replica_141 : decode cX12_replica 141 = .ok (.getfield 97, 3) := by decide +kernel
theorem dX12_replica_144 : decode cX12_replica 144 = .ok (.iload_n 1, 1) := by decide +kernel
theorem dX12_replica_145 : decode cX12_replica 145 = .ok (.iaload, 1) := by decide +kernel
theorem dX12_replica_146 : decode cX12_replica 146 = .ok (.ireturn, 1) := by decide +kernel
theorem dX12_replica_147 : decode cX12_replica 147 = .ok (.aload_n 0, 1) := by decide +kernel
theorem dX12_replica_148 : decode cX12_replica 148 = .ok (.getfield 100, 3) := by decide +kernel
theorem dX12_replica_151 : decode cX12_replica 151 = .ok (.iload_n 1, 1) := by decide +kernel
theorem dX12_replica_152 : decode cX12_replica 152 = .ok (.iaload, 1) := by decide +kernel
theorem dX12_replica_153 : decode cX12_replica 153 = .ok (.ireturn, 1) := by decide +kernel
theorem dX12_replica_154 : decode cX12_replica 154 = .ok (.aload_n 0, 1) := by decide +kernel
theorem dX12_replica_155 : decode cX12_replica 155 = .ok (.getfield 112, 3) := by decide +kernel
theorem dX12_replica_158 : decode cX12_replica 158 = .ok (.iload_n 1, 1) := by decide +kernel
theorem dX12_replica_159 : decode cX12_replica 159 = .ok (.iaload, 1) := by decide +kernel
theorem dX12_replica_160 : decode cX12_replica 160 = .ok (.ireturn, 1) := by decide +kernel
theorem dX12_replica_161 : decode cX12_replica 161 = .ok (.iconst (-1), 1) := by decide +kernel
theorem dX12_replica_162 : decode cX12_replica 162 = .ok (.ireturn, 1) := by decide +kernel
theorem dX12_entry_0 : decode cX12_entry 0 = .ok (.aload_n 0, 1) := by decide +kernel
theorem dX12_entry_1 : decode cX12_entry 1 = .ok (.iconst 0, 1) := by decide +kernel
theorem dX12_entry_2 : decode cX12_entry 2 = .ok (.putfield 229, 3) := by decide +kernel
theorem dX12_entry_5 : decode cX12_entry 5 = .ok (.iload_n 3, 1) := by decide +kernel
theorem dX12_entry_6 : decode cX12_entry 6 = .ok (.iconst 5, 1) := by decide +kernel
theorem dX12_entry_7 : decode cX12_entry 7 = .ok (.if_icmp .ne 7, 3) := by decide +kernel
theorem dX12_entry_10 : decode cX12_entry 10 = .ok (.iconst 0, 1) := by decide +kernel
theorem dX12_entry_11 : decode cX12_entry 11 = .ok (.goto 4, 3) := by decide +kernel
theorem dX12_entry_14 : decode cX12_entry 14 = .ok (.iconst (-1), 1) := by decide +kernel
theorem dX12_entry_15 : decode cX12_entry 15 = .ok (.istore 4, 2) := by decide +kernel
theorem dX12_entry_17 : decode cX12_entry 17 = .ok (.iload_n 1, 1) := by decide +kernel
theorem dX12_entry_18 : decode cX12_entry 18 = .ok (.aload_n 0, 1) := by decide +kernel
theorem dX12_entry_19 : decode cX12_entry 19 = .ok (.getfield 223, 3) := by decide +kernel
theorem dX12_entry_22 : decode cX12_entry 22 = .ok (.invokestatic 374, 3) := by decide +kernel
theorem dX12_entry_25 : decode cX12_entry 25 = .ok (.ifCond .eq 18, 3) := by decide +kernel
theorem dX12_entry_28 : decode cX12_entry 28 = .ok (.iload_n 2, 1) := by decide +kernel
theorem dX12_entry_29 : decode cX12_entry 29 = .ok (.iconst 1, 1) := by decide +kernel
theorem dX12_entry_30 : decode cX12_entry 30 = .ok (.if_icmp .lt 13, 3) := by decide +kernel
theorem dX12_entry_33 : decode cX12_entry 33 = .ok (.iload_n 2, 1) := by decide +kernel
theorem dX12_entry_34 : decode cX12_entry 34 = .ok (.aload_n 0, 1) := by decide +kernel
theorem dX12_entry_35 : decode cX12_entry 35 = .ok (.getfield 103, 3) := by decide +kernel
theorem dX12_entry_38 : decode cX12_entry 38 = .ok (.iload_n 1, 1) := by decide +kernel
theorem dX12_entry_39 : decode cX12_entry 39 = .ok (.iaload, 1) := by decide +kernel
theorem dX12_entry_40 : decode cX12_entry 40 = .ok (.if_icmp .le 6, 3) := by decide +kernel
theorem dX12_entry_43 : decode cX12_entry 43 = .ok (.iload 4, 2) := by decide +kernel
theorem dX12_entry_45 : decode cX12_entry 45 = .ok (.ireturn, 1) := by decide +kernel
theorem dX12_entry_46 : decode cX12_entry 46 = .ok (.aload_n 0, 1) := by decide +kernel
theorem dX12_entry_47 : decode cX12_entry 47 = .ok (.getfield 115, 3) := by decide +kernel
theorem dX12_entry_50 : decode cX12_entry 50 = .ok (.bipush 100, 2) := by decide +kernel
theorem dX12_entry_52 : decode cX12_entry 52 = .ok (.iload_n 1, 1) := by decide +kernel
theorem dX12_entry_53 : decode cX12_entry 53 = .ok (.imul, 1) := by decide +kernel
theorem dX12_entry_54 : decode cX12_entry 54 = .ok (.iload_n 2, 1) := by decide +kernel
theorem dX12_entry_55 : decode cX12_entry 55 = .ok (.iadd, 1) := by decide +kernel
theorem dX12_entry_56 : decode cX12_entry 56 = .ok (.iconst 1, 1) := by decide +kernel
theorem dX12_entry_57 : decode cX12_entry 57 = .ok (.isub, 1) := by decide +kernel
theorem dX12_entry_58 : decode cX12_entry 58 = .ok (.iaload, 1) := by decide +kernel
theorem dX12_entry_59 : decode cX12_entry 59 = .ok (.istore 5, 2) := by decide +kernel
theorem dX12_entry_61 : decode cX12_entry 61 = .ok (.iload_n 3, 1) := by decide +kernel
theorem dX12_entry_62 : decode cX12_entry 62 = .ok (.ifCond .ne 14, 3) := by decide +kernel
theorem dX12_entry_65 : decode cX12_entry 65 = .ok (.iload 5, 2) := by decide +kernel
theorem dX12_entry_67 : decode cX12_entry 67 = .ok (.ifCond .ne 7, 3) := by decide +kernel
theorem dX12_entry_70 : decode cX12_entry 70 = .ok (.iconst 0, 1) := by decide +kernel
theorem dX12_entry_71 : decode cX12_entry 71 = .ok (.goto 4, 3) := by decide +kernel
theorem dX12_entry_74 : decode cX12_entry 74 = .ok (.iconst 1, 1) := by decide +kernel
theorem dX12_entry_75 : decode cX12_entry 75 = .ok (.ireturn, 1) := by decide +kernel
theorem dX12_entry_76 : decode cX12_entry 76 = .ok (.iload 5, 2) := by decide +kernel
theorem dX12_entry_78 : decode cX12_entry 78 = .ok (.ifCond .ne 6, 3) := by decide +kernel
theorem dX12_entry_81 : decode cX12_entry 81 = .ok (.iload 4, 2) := by decide +kernel
theorem dX12_entry_83 : decode cX12_entry 83 = .ok (.ireturn, 1) := by decide +kernel
theorem dX12_entry_84 : decode cX12_entry 84 = .ok (.iload_n 3, 1) := by decide +kernel
theorem dX12_entry_85 : decode cX12_entry 85 = .ok (.tableswitch 75 1 5 #[35, 43, 51, 59, 67], 35) := by decide +kernel
theorem dX12_entry_120 : decode cX12_entry 120 = .ok (.aload_n 0, 1) := by decide +kernel
theorem dX12_entry_121 : decode cX12_entry 121 = .ok (.getfield 7, 3) := by decide +kernel
theorem dX12_entry_124 : decode cX12_entry 124 = .ok (.iload 5, 2) := by decide +kernel
theorem dX12_entry_126 : decode cX12_entry 126 = .ok (.iaload, 1) := by decide +kernel
theorem dX12_entry_127 : decode cX12_entry 127 = .ok (.ireturn, 1) := by decide +kernel
theorem dX12_entry_128 : decode cX12_entry 128 = .ok (.aload_n 0, 1) := by decide +kernel
theorem dX12_entry_129 : decode cX12_entry 129 = .ok (.getfield 13, 3) := by decide +kernel
theorem dX12_entry_132 : decode cX12_entry 132 = .ok (.iload 5, 2) := by decide +kernel
theorem dX12_entry_134 : decode cX12_entry 134 = .ok (.iaload, 1) := by decide +kernel
theorem dX12_entry_135 : decode cX12_entry 135 = .ok (.ireturn, 1) := by decide +kernel
theorem dX12_entry_136 : decode cX12_entry 136 = .ok (.aload_n 0, 1) := by decide +kernel
theorem dX12_entry_137 : decode cX12_entry 137 = .ok (.getfield 16, 3) := by decide +kernel
theorem dX12_entry_140 : decode cX12_entry 140 = .ok (.iload 5, 2) := by decide +kernel
theorem dX12_entry_142 : decode cX12_entry 142 = .ok (.iaload, 1) := by decide +kernel
theorem dX12_entry_143 : decode cX12_entry 143 = .ok (.ireturn, 1) := by decide +kernel
theorem dX12_entry_144 : decode cX12_entry 144 = .ok (.aload_n 0, 1) := by decide +kernel
theorem dX12_entry_145 : decode cX12_entry 145 = .ok (.getfield 19, 3) := by decide +kernel
theorem dX12_entry_148 : decode cX12_entry 148 = .ok (.iload 5, 2) := by decide +kernel
theorem dX12_entry_150 : decode cX12_entry 150 = .ok (.iaload, 1) := by decide +kernel
theorem dX12_entry_151 : decode cX12_entry 151 = .ok (.ireturn, 1) := by decide +kernel
theorem dX12_entry_152 : decode cX12_entry 152 = .ok (.aload_n 0, 1) := by decide +kernel
theorem dX12_entry_153 : decode cX12_entry 153 = .ok (.getfield 22, 3) := by decide +kernel
theorem dX12_entry_156 : decode cX12_entry 156 = .ok (.iload 5, 2) := by decide +kernel
theorem dX12_entry_158 : decode cX12_entry 158 = .ok (.iaload, 1) := by decide +kernel
theorem dX12_entry_159 : decode cX12_entry 159 = .ok (.ireturn, 1) := by decide +kernel
theorem dX12_entry_160 : decode cX12_entry 160 = .ok (.iconst (-1), 1) := by decide +kernel
theorem dX12_entry_161 : decode cX12_entry 161 = .ok (.ireturn, 1) := by decide +kernel
theorem dX12_word_0 : decode cX12_word 0 = .ok (.aload_n 0, 1) := by decide +kernel
theorem dX12_word_1 : decode cX12_word 1 = .ok (.iconst 0, 1) := by decide +kernel
theorem dX12_word_2 : decode cX12_word 2 = .ok (.putfield 229, 3) := by decide +kernel
theorem dX12_word_5 : decode cX12_word 5 = .ok (.iload_n 1, 1) := by decide +kernel
theorem dX12_word_6 : decode cX12_word 6 = .ok (.aload_n 0, 1) := by decide +kernel
theorem dX12_word_7 : decode cX12_word 7 = .ok (.getfield 223, 3) := by decide +kernel
theorem dX12_word_10 : decode cX12_word 10 = .ok (.invokestatic 374, 3) := by decide +kernel
theorem dX12_word_13 : decode cX12_word 13 = .ok (.ifCond .eq 12, 3) := by decide +kernel
theorem dX12_word_16 : decode cX12_word 16 = .ok (.iload_n 2, 1) := by decide +kernel
theorem dX12_word_17 : decode cX12_word 17 = .ok (.bipush 8, 2) := by decide +kernel
theorem dX12_word_19 : decode cX12_word 19 = .ok (.invokestatic 374, 3) := by decide +kernel
theorem dX12_word_22 : decode cX12_word 22 = .ok (.ifCond .ne 5, 3) := by decide +kernel
theorem dX12_word_25 : decode cX12_word 25 = .ok (.iconst 0, 1) := by decide +kernel
theorem dX12_word_26 : decode cX12_word 26 = .ok (.ireturn, 1) := by decide +kernel
theorem dX12_word_27 : decode cX12_word 27 = .ok (.aload_n 0, 1) := by decide +kernel
theorem dX12_word_28 : decode cX12_word 28 = .ok (.iload_n 1, 1) := by decide +kernel
theorem dX12_word_29 : decode cX12_word 29 = .ok (.aload_n 0, 1) := by decide +kernel
theorem dX12_word_30 : decode cX12_word 30 = .ok (.iload_n 1, 1) := by decide +kernel
theorem dX12_word_31 : decode cX12_word 31 = .ok (.invokevirtual 392, 3) := by decide +kernel
theorem dX12_word_34 : decode cX12_word 34 = .ok (.invokevirtual 256, 3) := by decide +kernel
theorem dX12_word_37 : decode cX12_word 37 = .ok (.aload_n 0, 1) := by decide +kernel
theorem dX12_word_38 : decode cX12_word 38 = .ok (.getfield 214, 3) := by decide +kernel
theorem dX12_word_41 : decode cX12_word 41 = .ok (.iload_n 2, 1) := by decide +kernel
theorem dX12_word_42 : decode cX12_word 42 = .ok (.iaload, 1) := by decide +kernel
theorem dX12_word_43 : decode cX12_word 43 = .ok (.ireturn, 1) := by decide +kernel
theorem dX12_client_0 : decode cX12_client 0 = .ok (.aload_n 0, 1) := by decide +kernel
theorem dX12_client_1 : decode cX12_client 1 = .ok (.iconst 0, 1) := by decide +kernel
theorem dX12_client_2 : decode cX12_client 2 = .ok (.putfield 229, 3) := by decide +kernel
theorem dX12_client_5 : decode cX12_client 5 = .ok (.iload_n 1, 1) := by decide +kernel
theorem dX12_client_6 : decode cX12_client 6 = .ok (.iconst 4, 1) := by decide +kernel
theorem dX12_client_7 : decode cX12_client 7 = .ok (.invokestatic 374, 3) := by decide +kernel
theorem dX12_client_10 : decode cX12_client 10 = .ok (.ifCond .ne 5, 3) := by decide +kernel
theorem dX12_client_13 : decode cX12_client 13 = .ok (.iconst (-1), 1) := by decide +kernel
theorem dX12_client_14 : decode cX12_client 14 = .ok (.ireturn, 1) := by decide +kernel
theorem dX12_client_15 : decode cX12_client 15 = .ok (.iload_n 2, 1) := by decide +kernel
theorem dX12_client_16 : decode cX12_client 16 = .ok (.iconst 2, 1) := by decide +kernel
theorem dX12_client_17 : decode cX12_client 17 = .ok (.if_icmp .ge 32, 3) := by decide +kernel
theorem dX12_client_20 : decode cX12_client 20 = .ok (.iload_n 2, 1) := by decide +kernel
theorem dX12_client_21 : decode cX12_client 21 = .ok (.ifCond .ne 12, 3) := by decide +kernel
theorem dX12_client_24 : decode cX12_client 24 = .ok (.aload_n 0, 1) := by decide +kernel
theorem dX12_client_25 : decode cX12_client 25 = .ok (.getfield 160, 3) := by decide +kernel
theorem dX12_client_28 : decode cX12_client 28 = .ok (.iload_n 1, 1) := by decide +kernel
theorem dX12_client_29 : decode cX12_client 29 = .ok (.iaload, 1) := by decide +kernel
theorem dX12_client_30 : decode cX12_client 30 = .ok (.goto 18, 3) := by decide +kernel
theorem dX12_client_33 : decode cX12_client 33 = .ok (.iload_n 2, 1) := by decide +kernel
theorem dX12_client_34 : decode cX12_client 34 = .ok (.iconst 1, 1) := by decide +kernel
theorem dX12_client_35 : decode cX12_client 35 = .ok (.if_icmp .ne 12, 3) := by decide +kernel
theorem dX12_client_38 : decode cX12_client 38 = .ok (.aload_n 0, 1) := by decide +kernel
theorem dX12_client_39 : decode cX12_client 39 = .ok (.getfield 166, 3) := by decide +kernel
theorem dX12_client_42 : decode cX12_client 42 = .ok (.iload_n 1, 1) := by decide +kernel
theorem dX12_client_43 : decode cX12_client 43 = .ok (.iaload, 1) := by decide +kernel
theorem dX12_client_44 : decode cX12_client 44 = .ok (.goto 4, 3) := by decide +kernel
theorem dX12_client_47 : decode cX12_client 47 = .ok (.iconst (-1), 1) := by decide +kernel
theorem dX12_client_48 : decode cX12_client 48 = .ok (.ireturn, 1) := by decide +kernel
theorem dX12_client_49 : decode cX12_client 49 = .ok (.aload_n 0, 1) := by decide +kernel
theorem dX12_client_50 : decode cX12_client 50 = .ok (.getfield 166, 3) := by decide +kernel
theorem dX12_client_53 : decode cX12_client 53 = .ok (.iload_n 1, 1) := by decide +kernel
theorem dX12_client_54 : decode cX12_client 54 = .ok (.iaload, 1) := by decide +kernel
theorem dX12_client_55 : decode cX12_client 55 = .ok (.iconst 2, 1) := by decide +kernel
theorem dX12_client_56 : decode cX12_client 56 = .ok (.if_icmp .eq 5, 3) := by decide +kernel
theorem dX12_client_59 : decode cX12_client 59 = .ok (.iconst (-1), 1) := by decide +kernel
theorem dX12_client_60 : decode cX12_client 60 = .ok (.ireturn, 1) := by decide +kernel
theorem dX12_client_61 : decode cX12_client 61 = .ok (.iload_n 2, 1) := by decide +kernel
theorem dX12_client_62 : decode cX12_client 62 = .ok (.iconst 2, 1) := by decide +kernel
theorem dX12_client_63 : decode cX12_client 63 = .ok (.if_icmp .ne 12, 3) := by decide +kernel
theorem dX12_client_66 : decode cX12_client 66 = .ok (.aload_n 0, 1) := by decide +kernel
theorem dX12_client_67 : decode cX12_client 67 = .ok (.getfield 169, 3) := by decide +kernel
theorem dX12_client_70 : decode cX12_client 70 = .ok (.iload_n 1, 1) := by decide +kernel
theorem dX12_client_71 : decode cX12_client 71 = .ok (.iaload, 1) := by decide +kernel
theorem dX12_client_72 : decode cX12_client 72 = .ok (.goto 32, 3) := by decide +kernel
theorem dX12_client_75 : decode cX12_client 75 = .ok (.iload_n 2, 1) := by decide +kernel
theorem dX12_client_76 : decode cX12_client 76 = .ok (.iconst 3, 1) := by decide +kernel
theorem dX12_client_77 : decode cX12_client 77 = .ok (.if_icmp .ne 12, 3) := by decide +kernel
theorem dX12_client_80 : decode cX12_client 80 = .ok (.aload_n 0, 1) := by decide +kernel
theorem dX12_client_81 : decode cX12_client 81 = .ok (.getfield 172, 3) := by decide +kernel
theorem dX12_client_84 : decode cX12_client 84 = .ok (.iload_n 1, 1) := by decide +kernel
theorem dX12_client_85 : decode cX12_client 85 = .ok (.iaload, 1) := by decide +kernel
theorem dX12_client_86 : decode cX12_client 86 = .ok (.goto 18, 3) := by decide +kernel
theorem dX12_client_89 : decode cX12_client 89 = .ok (.iload_n 2, 1) := by decide +kernel
theorem dX12_client_90 : decode cX12_client 90 = .ok (.iconst 4, 1) := by decide +kernel
theorem dX12_client_91 : decode cX12_client 91 = .ok (.if_icmp .ne 12, 3) := by decide +kernel
theorem dX12_client_94 : decode cX12_client 94 = .ok (.aload_n 0, 1) := by decide +kernel
theorem dX12_client_95 : decode cX12_client 95 = .ok (.getfield 175, 3) := by decide +kernel
theorem dX12_client_98 : decode cX12_client 98 = .ok (.iload_n 1, 1) := by decide +kernel
theorem dX12_client_99 : decode cX12_client 99 = .ok (.iaload, 1) := by decide +kernel
theorem dX12_client_100 : decode cX12_client 100 = .ok (.goto 4, 3) := by decide +kernel
theorem dX12_client_103 : decode cX12_client 103 = .ok (.iconst (-1), 1) := by decide +kernel
theorem dX12_client_104 : decode cX12_client 104 = .ok (.ireturn, 1) := by decide +kernel
theorem dX12_answer__0 : decode cX12_answer_ 0 = .ok (.aload_n 0, 1) := by decide +kernel
theorem dX12_answer__1 : decode cX12_answer_ 1 = .ok (.iconst 0, 1) := by decide +kernel
theorem dX12_answer__2 : decode cX12_answer_ 2 = .ok (.putfield 229, 3) := by decide +kernel
theorem dX12_answer__5 : decode cX12_answer_ 5 = .ok (.iload_n 1, 1) := by decide +kernel
theorem dX12_answer__6 : decode cX12_answer_ 6 = .ok (.iconst 4, 1) := by decide +kernel
theorem dX12_answer__7 : decode cX12_answer_ 7 = .ok (.invokestatic 374, 3) := by decide +kernel
theorem dX12_answer__10 : decode cX12_answer_ 10 = .ok (.ifCond .eq 12, 3) := by decide +kernel
theorem dX12_answer__13 : decode cX12_answer_ 13 = .ok (.aload_n 0, 1) := by decide +kernel
theorem dX12_answer__14 : decode cX12_answer_ 14 = .ok (.getfield 178, 3) := by decide +kernel
theorem dX12_answer__17 : decode cX12_answer_ 17 = .ok (.iload_n 1, 1) := by decide +kernel
theorem dX12_answer__18 : decode cX12_answer_ 18 = .ok (.iaload, 1) := by decide +kernel
theorem dX12_answer__19 : decode cX12_answer_ 19 = .ok (.goto 4, 3) := by decide +kernel
theorem dX12_answer__22 : decode cX12_answer_ 22 = .ok (.iconst 0, 1) := by decide +kernel
theorem dX12_answer__23 : decode cX12_answer_ 23 = .ok (.ireturn, 1) := by decide +kernel
theorem dX12_about_0 : decode cX12_about 0 = .ok (.aload_n 0, 1) := by decide +kernel
theorem dX12_about_1 : decode cX12_about 1 = .ok (.iconst 0, 1) := by decide +kernel
theorem dX12_about_2 : decode cX12_about 2 = .ok (.putfield 229, 3) := by decide +kernel
theorem dX12_about_5 : decode cX12_about 5 = .ok (.iload_n 1, 1) := by decide +kernel
theorem dX12_about_6 : decode cX12_about 6 = .ok (.tableswitch 85 0 6 #[42, 47, 52, 57, 70, 75, 80], 42) := by decide +kernel
theorem dX12_about_48 : decode cX12_about 48 = .ok (.aload_n 0, 1) := by decide +kernel
theorem dX12_about_49 : decode cX12_about 49 = .ok (.getfield 235, 3) := by decide +kernel
theorem dX12_about_52 : decode cX12_about 52 = .ok (.ireturn, 1) := by decide +kernel
theorem dX12_about_53 : decode cX12_about 53 = .ok (.aload_n 0, 1) := by decide +kernel
theorem dX12_about_54 : decode cX12_about 54 = .ok (.getfield 232, 3) := by decide +kernel
theorem dX12_about_57 : decode cX12_about 57 = .ok (.ireturn, 1) := by decide +kernel
theorem dX12_about_58 : decode cX12_about 58 = .ok (.aload_n 0, 1) := by decide +kernel
theorem dX12_about_59 : decode cX12_about 59 = .ok (.getfield 238, 3) := by decide +kernel
theorem dX12_about_62 : decode cX12_about 62 = .ok (.ireturn, 1) := by decide +kernel
theorem dX12_about_63 : decode cX12_about 63 = .ok (.aload_n 0, 1) := by decide +kernel
theorem dX12_about_64 : decode cX12_about 64 = .ok (.getfield 25, 3) := by decide +kernel
theorem dX12_about_67 : decode cX12_about 67 = .ok (.ifCond .eq 7, 3) := by decide +kernel
theorem dX12_about_70 : decode cX12_about 70 = .ok (.iconst 1, 1) := by decide +kernel
theorem dX12_about_71 : decode cX12_about 71 = .ok (.goto 4, 3) := by decide +kernel
theorem dX12_about_74 : decode cX12_about 74 = .ok (.iconst 0, 1) := by decide +kernel
theorem dX12_about_75 : decode cX12_about 75 = .ok (.ireturn, 1) := by decide +kernel
theorem dX12_about_76 : decode cX12_about 76 = .ok (.aload_n 0, 1) := by decide +kernel
theorem dX12_about_77 : decode cX12_about 77 = .ok (.getfield 29, 3) := by decide +kernel
theorem dX12_about_80 : decode cX12_about 80 = .ok (.ireturn, 1) := by decide +kernel
theorem dX12_about_81 : decode cX12_about 81 = .ok (.aload_n 0, 1) := by decide +kernel
theorem dX12_about_82 : decode cX12_about 82 = .ok (.getfield 245, 3) := by decide +kernel
theorem dX12_about_85 : decode cX12_about 85 = .ok (.ireturn, 1) := by decide +kernel
theorem dX12_about_86 : decode cX12_about 86 = .ok (.aload_n 0, 1) := by decide +kernel
theorem dX12_about_87 : decode cX12_about 87 = .ok (.getfield 334, 3) := by decide +kernel
theorem dX12_about_90 : decode cX12_about 90 = .ok (.ireturn, 1) := by decide +kernel
theorem dX12_about_91 : decode cX12_about 91 = .ok (.iconst (-1), 1) := by decide +kernel
theorem dX12_about_92 : decode cX12_about 92 = .ok (.ireturn, 1) := by decide +kernel
theorem dX12_message_0 : decode cX12_message 0 = .ok (.aload_n 0, 1) := by decide +kernel
theorem dX12_message_1 : decode cX12_message 1 = .ok (.iconst 0, 1) := by decide +kernel
theorem dX12_message_2 : decode cX12_message 2 = .ok (.putfield 229, 3) := by decide +kernel
theorem dX12_message_5 : decode cX12_message 5 = .ok (.iload_n 1, 1) := by decide +kernel
theorem dX12_message_6 : decode cX12_message 6 = .ok (.aload_n 0, 1) := by decide +kernel
theorem dX12_message_7 : decode cX12_message 7 = .ok (.getfield 235, 3) := by decide +kernel
theorem dX12_message_10 : decode cX12_message 10 = .ok (.invokestatic 374, 3) := by decide +kernel
theorem dX12_message_13 : decode cX12_message 13 = .ok (.ifCond .ne 5, 3) := by decide +kernel
theorem dX12_message_16 : decode cX12_message 16 = .ok (.iconst (-1), 1) := by decide +kernel
theorem dX12_message_17 : decode cX12_message 17 = .ok (.ireturn, 1) := by decide +kernel
theorem dX12_message_18 : decode cX12_message 18 = .ok (.aload_n 0, 1) := by decide +kernel
theorem dX12_message_19 : decode cX12_message 19 = .ok (.getfield 33, 3) := by decide +kernel
theorem dX12_message_22 : decode cX12_message 22 = .ok (.iload_n 1, 1) := by decide +kernel
theorem dX12_message_23 : decode cX12_message 23 = .ok (.iaload, 1) := by decide +kernel
theorem dX12_message_24 : decode cX12_message 24 = .ok (.istore_n 3, 1) := by decide +kernel
theorem dX12_message_25 : decode cX12_message 25 = .ok (.iload_n 2, 1) := by decide +kernel
theorem dX12_message_26 : decode cX12_message 26 = .ok (.ifCond .ne 12, 3) := by decide +kernel
theorem dX12_message_29 : decode cX12_message 29 = .ok (.aload_n 0, 1) := by decide +kernel
theorem dX12_message_30 : decode cX12_message 30 = .ok (.getfield 39, 3) := by decide +kernel
theorem dX12_message_33 : decode cX12_message 33 = .ok (.iload_n 3, 1) := by decide +kernel
theorem dX12_message_34 : decode cX12_message 34 = .ok (.iaload, 1) := by decide +kernel
theorem dX12_message_35 : decode cX12_message 35 = .ok (.goto 46, 3) := by decide +kernel
theorem dX12_message_38 : decode cX12_message 38 = .ok (.iload_n 2, 1) := by decide +kernel
theorem dX12_message_39 : decode cX12_message 39 = .ok (.iconst 1, 1) := by decide +kernel
theorem dX12_message_40 : decode cX12_message 40 = .ok (.if_icmp .ne 12, 3) := by decide +kernel
theorem dX12_message_43 : decode cX12_message 43 = .ok (.aload_n 0, 1) := by decide +kernel
theorem dX12_message_44 : decode cX12_message 44 = .ok (.getfield 42, 3) := by decide +kernel
theorem dX12_message_47 : decode cX12_message 47 = .ok (.iload_n 3, 1) := by decide +kernel
theorem dX12_message_48 : decode cX12_message 48 = .ok (.iaload, 1) := by decide +kernel
theorem dX12_message_49 : decode cX12_message 49 = .ok (.goto 32, 3) := by decide +kernel
theorem dX12_message_52 : decode cX12_message 52 = .ok (.iload_n 2, 1) := by decide +kernel
theorem dX12_message_53 : decode cX12_message 53 = .ok (.iconst 2, 1) := by decide +kernel
theorem dX12_message_54 : decode cX12_message 54 = .ok (.if_icmp .ne 12, 3) := by decide +kernel
theorem dX12_message_57 : decode cX12_message 57 = .ok (.aload_n 0, 1) := by decide +kernel
theorem dX12_message_58 : decode cX12_message 58 = .ok (.getfield 45, 3) := by decide +kernel
theorem dX12_message_61 : decode cX12_message 61 = .ok (.iload_n 3, 1) := by decide +kernel
theorem dX12_message_62 : decode cX12_message 62 = .ok (.iaload, 1) := by decide +kernel
theorem dX12_message_63 : decode cX12_message 63 = .ok (.goto 18, 3) := by decide +kernel
theorem dX12_message_66 : decode cX12_message 66 = .ok (.iload_n 2, 1) := by decide +kernel
theorem dX12_message_67 : decode cX12_message 67 = .ok (.iconst 3, 1) := by decide +kernel
theorem dX12_message_68 : decode cX12_message 68 = .ok (.if_icmp .ne 12, 3) := by decide +kernel
theorem dX12_message_71 : decode cX12_message 71 = .ok (.aload_n 0, 1) := by decide +kernel
theorem dX12_message_72 : decode cX12_message 72 = .ok (.getfield 48, 3) := by decide +kernel
theorem dX12_message_75 : decode cX12_message 75 = .ok (.iload_n 3, 1) := by decide +kernel
theorem dX12_message_76 : decode cX12_message 76 = .ok (.iaload, 1) := by decide +kernel
theorem dX12_message_77 : decode cX12_message 77 = .ok (.goto 4, 3) := by decide +kernel
theorem dX12_message_80 : decode cX12_message 80 = .ok (.iconst (-1), 1) := by decide +kernel
theorem dX12_message_81 : decode cX12_message 81 = .ok (.ireturn, 1) := by decide +kernel
theorem dX12_has_0 : decode cX12_has 0 = .ok (.aload_n 0, 1) := by decide +kernel
theorem dX12_has_1 : decode cX12_has 1 = .ok (.getfield 199, 3) := by decide +kernel
theorem dX12_has_4 : decode cX12_has 4 = .ok (.iload_n 2, 1) := by decide +kernel
theorem dX12_has_5 : decode cX12_has 5 = .ok (.iaload, 1) := by decide +kernel
theorem dX12_has_6 : decode cX12_has 6 = .ok (.istore_n 3, 1) := by decide +kernel
theorem dX12_has_7 : decode cX12_has 7 = .ok (.aload_n 0, 1) := by decide +kernel
theorem dX12_has_8 : decode cX12_has 8 = .ok (.getfield 208, 3) := by decide +kernel
theorem dX12_has_11 : decode cX12_has 11 = .ok (.iload_n 2, 1) := by decide +kernel
theorem dX12_has_12 : decode cX12_has 12 = .ok (.iaload, 1) := by decide +kernel
theorem dX12_has_13 : decode cX12_has 13 = .ok (.istore 4, 2) := by decide +kernel
theorem dX12_has_15 : decode cX12_has 15 = .ok (.iload 4, 2) := by decide +kernel
theorem dX12_has_17 : decode cX12_has 17 = .ok (.aload_n 0, 1) := by decide +kernel
theorem dX12_has_18 : decode cX12_has 18 = .ok (.getfield 103, 3) := by decide +kernel
theorem dX12_has_21 : decode cX12_has 21 = .ok (.iload_n 1, 1) := by decide +kernel
theorem dX12_has_22 : decode cX12_has 22 = .ok (.iaload, 1) := by decide +kernel
theorem dX12_has_23 : decode cX12_has 23 = .ok (.if_icmp .gt 21, 3) := by decide +kernel
theorem dX12_has_26 : decode cX12_has 26 = .ok (.aload_n 0, 1) := by decide +kernel
theorem dX12_has_27 : decode cX12_has 27 = .ok (.getfield 115, 3) := by decide +kernel
theorem dX12_has_30 : decode cX12_has 30 = .ok (.bipush 100, 2) := by decide +kernel
theorem dX12_has_32 : decode cX12_has 32 = .ok (.iload_n 1, 1) := by decide +kernel
theorem dX12_has_33 : decode cX12_has 33 = .ok (.imul, 1) := by decide +kernel
theorem dX12_has_34 : decode cX12_has 34 = .ok (.iload 4, 2) := by decide +kernel
theorem dX12_has_36 : decode cX12_has 36 = .ok (.iadd, 1) := by decide +kernel
theorem dX12_has_37 : decode cX12_has 37 = .ok (.iconst 1, 1) := by decide +kernel
theorem dX12_has_38 : decode cX12_has 38 = .ok (.isub, 1) := by decide +kernel
theorem dX12_has_39 : decode cX12_has 39 = .ok (.iaload, 1) := by decide +kernel
theorem dX12_has_40 : decode cX12_has 40 = .ok (.iload_n 3, 1) := by decide +kernel
theorem dX12_has_41 : decode cX12_has 41 = .ok (.if_icmp .eq 5, 3) := by decide +kernel
theorem dX12_has_44 : decode cX12_has 44 = .ok (.iconst 0, 1) := by decide +kernel
theorem dX12_has_45 : decode cX12_has 45 = .ok (.ireturn, 1) := by decide +kernel
theorem dX12_has_46 : decode cX12_has 46 = .ok (.iconst 0, 1) := by decide +kernel
theorem dX12_has_47 : decode cX12_has 47 = .ok (.istore 5, 2) := by decide +kernel
theorem dX12_has_49 : decode cX12_has 49 = .ok (.iload 5, 2) := by decide +kernel
theorem dX12_has_51 : decode cX12_has 51 = .ok (.aload_n 0, 1) := by decide +kernel
theorem dX12_has_52 : decode cX12_has 52 = .ok (.getfield 103, 3) := by decide +kernel
theorem dX12_has_55 : decode cX12_has 55 = .ok (.iload_n 1, 1) := by decide +kernel
theorem dX12_has_56 : decode cX12_has 56 = .ok (.iaload, 1) := by decide +kernel
theorem dX12_has_57 : decode cX12_has 57 = .ok (.if_icmp .ge 64, 3) := by decide +kernel
theorem dX12_has_60 : decode cX12_has 60 = .ok (.aload_n 0, 1) := by decide +kernel
theorem dX12_has_61 : decode cX12_has 61 = .ok (.iload_n 1, 1) := by decide +kernel
theorem dX12_has_62 : decode cX12_has 62 = .ok (.iload 5, 2) := by decide +kernel
theorem dX12_has_64 : decode cX12_has 64 = .ok (.iconst 1, 1) := by decide +kernel
theorem dX12_has_65 : decode cX12_has 65 = .ok (.iadd, 1) := by decide +kernel
theorem dX12_has_66 : decode cX12_has 66 = .ok (.invokevirtual 256, 3) := by decide +kernel
theorem dX12_has_69 : decode cX12_has 69 = .ok (.aload_n 0, 1) := by decide +kernel
theorem dX12_has_70 : decode cX12_has 70 = .ok (.getfield 217, 3) := by decide +kernel
theorem dX12_has_73 : decode cX12_has 73 = .ok (.aload_n 0, 1) := by decide +kernel
theorem dX12_has_74 : decode cX12_has 74 = .ok (.getfield 7, 3) := by decide +kernel
theorem dX12_has_77 : decode cX12_has 77 = .ok (.iload_n 3, 1) := by decide +kernel
theorem dX12_has_78 : decode cX12_has 78 = .ok (.iaload, 1) := by decide +kernel
theorem dX12_has_79 : decode cX12_has 79 = .ok (.iaload, 1) := by decide +kernel
theorem dX12_has_80 : decode cX12_has 80 = .ok (.aload_n 0, 1) := by decide +kernel
theorem dX12_has_81 : decode cX12_has 81 = .ok (.getfield 13, 3) := by decide +kernel
theorem dX12_has_84 : decode cX12_has 84 = .ok (.iload_n 3, 1) := by decide +kernel
theorem dX12_has_85 : decode cX12_has 85 = .ok (.iaload, 1) := by decide +kernel
theorem dX12_has_86 : decode cX12_has 86 = .ok (.if_icmp .ne 29, 3) := by decide +kernel
theorem dX12_has_89 : decode cX12_has 89 = .ok (.aload_n 0, 1) := by decide +kernel
theorem dX12_has_90 : decode cX12_has 90 = .ok (.getfield 220, 3) := by decide +kernel
theorem dX12_has_93 : decode cX12_has 93 = .ok (.aload_n 0, 1) := by decide +kernel
theorem dX12_has_94 : decode cX12_has 94 = .ok (.getfield 7, 3) := by decide +kernel
theorem dX12_has_97 : decode cX12_has 97 = .ok (.iload_n 3, 1) := by decide +kernel
theorem dX12_has_98 : decode cX12_has 98 = .ok (.iaload, 1) := by decide +kernel
theorem dX12_has_99 : decode cX12_has 99 = .ok (.iaload, 1) := by decide +kernel
theorem dX12_has_100 : decode cX12_has 100 = .ok (.aload_n 0, 1) := by decide +kernel
theorem dX12_has_101 : decode cX12_has 101 = .ok (.getfield 211, 3) := by decide +kernel
theorem dX12_has_104 : decode cX12_has 104 = .ok (.iload_n 2, 1) := by decide +kernel
theorem dX12_has_105 : decode cX12_has 105 = .ok (.iaload, 1) := by decide +kernel
theorem dX12_has_106 : decode cX12_has 106 = .ok (.if_icmp .ne 7, 3) := by decide +kernel
theorem dX12_has_109 : decode cX12_has 109 = .ok (.iconst 1, 1) := by decide +kernel
theorem dX12_has_110 : decode cX12_has 110 = .ok (.goto 4, 3) := by decide +kernel
theorem dX12_has_113 : decode cX12_has 113 = .ok (.iconst 0, 1) := by decide +kernel
theorem dX12_has_114 : decode cX12_has 114 = .ok (.ireturn, 1) := by decide +kernel
theorem dX12_has_115 : decode cX12_has 115 = .ok (.iinc 5 1, 3) := by decide +kernel
theorem dX12_has_118 : decode cX12_has 118 = .ok (.goto (-69), 3) := by decide +kernel
theorem dX12_has_121 : decode cX12_has 121 = .ok (.iconst 1, 1) := by decide +kernel
theorem dX12_has_122 : decode cX12_has 122 = .ok (.ireturn, 1) := by decide +kernel
theorem dX12_broken_0 : decode cX12_broken 0 = .ok (.aload_n 0, 1) := by decide +kernel
theorem dX12_broken_1 : decode cX12_broken 1 = .ok (.iconst 0, 1) := by decide +kernel
theorem dX12_broken_2 : decode cX12_broken 2 = .ok (.putfield 229, 3) := by decide +kernel
theorem dX12_broken_5 : decode cX12_broken 5 = .ok (.iconst 0, 1) := by decide +kernel
theorem dX12_broken_6 : decode cX12_broken 6 = .ok (.istore_n 1, 1) := by decide +kernel
theorem dX12_broken_7 : decode cX12_broken 7 = .ok (.iconst 0, 1) := by decide +kernel
theorem dX12_broken_8 : decode cX12_broken 8 = .ok (.istore_n 2, 1) := by decide +kernel
theorem dX12_broken_9 : decode cX12_broken 9 = .ok (.iload_n 2, 1) := by decide +kernel
theorem dX12_broken_10 : decode cX12_broken 10 = .ok (.sipush 200, 3) := by decide +kernel
theorem dX12_broken_13 : decode cX12_broken 13 = .ok (.if_icmp .ge 165, 3) := by decide +kernel
theorem dX12_broken_16 : decode cX12_broken 16 = .ok (.iload_n 2, 1) := by decide +kernel
theorem dX12_broken_17 : decode cX12_broken 17 = .ok (.aload_n 0, 1) := by decide +kernel
theorem dX12_broken_18 : decode cX12_broken 18 = .ok (.getfield 334, 3) := by decide +kernel
theorem dX12_broken_21 : decode cX12_broken 21 = .ok (.if_icmp .ge 157, 3) := by decide +kernel
theorem dX12_broken_24 : decode cX12_broken 24 = .ok (.iconst 1, 1) := by decide +kernel
theorem dX12_broken_25 : decode cX12_broken 25 = .ok (.istore_n 3, 1) := by decide +kernel
theorem dX12_broken_26 : decode cX12_broken 26 = .ok (.iconst 0, 1) := by decide +kernel
theorem dX12_broken_27 : decode cX12_broken 27 = .ok (.istore 4, 2) := by decide +kernel
theorem dX12_broken_29 : decode cX12_broken 29 = .ok (.iload 4, 2) := by decide +kernel
theorem dX12_broken_31 : decode cX12_broken 31 = .ok (.aload_n 0, 1) := by decide +kernel
theorem dX12_broken_32 : decode cX12_broken 32 = .ok (.getfield 223, 3) := by decide +kernel
theorem dX12_broken_35 : decode cX12_broken 35 = .ok (.if_icmp .ge 125, 3) := by decide +kernel
theorem dX12_broken_38 : decode cX12_broken 38 = .ok (.aload_n 0, 1) := by decide +kernel
theorem dX12_broken_39 : decode cX12_broken 39 = .ok (.getfield 202, 3) := by decide +kernel
theorem dX12_broken_42 : decode cX12_broken 42 = .ok (.iload_n 2, 1) := by decide +kernel
theorem dX12_broken_43 : decode cX12_broken 43 = .ok (.iaload, 1) := by decide +kernel
theorem dX12_broken_44 : decode cX12_broken 44 = .ok (.aload_n 0, 1) := by decide +kernel
theorem dX12_broken_45 : decode cX12_broken 45 = .ok (.getfield 88, 3) := by decide +kernel
theorem dX12_broken_48 : decode cX12_broken 48 = .ok (.iload 4, 2) := by decide +kernel
theorem dX12_broken_50 : decode cX12_broken 50 = .ok (.iaload, 1) := by decide +kernel
theorem dX12_broken_51 : decode cX12_broken 51 = .ok (.if_icmp .ne 23, 3) := by decide +kernel
theorem dX12_broken_54 : decode cX12_broken 54 = .ok (.aload_n 0, 1) := by decide +kernel
theorem dX12_broken_55 : decode cX12_broken 55 = .ok (.getfield 205, 3) := by decide +kernel
theorem dX12_broken_58 : decode cX12_broken 58 = .ok (.iload_n 2, 1) := by decide +kernel
theorem dX12_broken_59 : decode cX12_broken 59 = .ok (.iaload, 1) := by decide +kernel
theorem dX12_broken_60 : decode cX12_broken 60 = .ok (.aload_n 0, 1) := by decide +kernel
theorem dX12_broken_61 : decode cX12_broken 61 = .ok (.getfield 91, 3) := by decide +kernel
theorem dX12_broken_64 : decode cX12_broken 64 = .ok (.iload 4, 2) := by decide +kernel
theorem dX12_broken_66 : decode cX12_broken 66 = .ok (.iaload, 1) := by decide +kernel
theorem dX12_broken_67 : decode cX12_broken 67 = .ok (.if_icmp .ne 7, 3) := by decide +kernel
theorem dX12_broken_70 : decode cX12_broken 70 = .ok (.iconst 1, 1) := by decide +kernel
theorem dX12_broken_71 : decode cX12_broken 71 = .ok (.goto 4, 3) := by decide +kernel
theorem dX12_broken_74 : decode cX12_broken 74 = .ok (.iconst 0, 1) := by decide +kernel
theorem dX12_broken_75 : decode cX12_broken 75 = .ok (.istore 5, 2) := by decide +kernel
theorem dX12_broken_77 : decode cX12_broken 77 = .ok (.aload_n 0, 1) := by decide +kernel
theorem dX12_broken_78 : decode cX12_broken 78 = .ok (.iload 4, 2) := by decide +kernel
theorem dX12_broken_80 : decode cX12_broken 80 = .ok (.invokevirtual 248, 3) := by decide +kernel
theorem dX12_broken_83 : decode cX12_broken 83 = .ok (.ifCond .eq 71, 3) := by decide +kernel
theorem dX12_broken_86 : decode cX12_broken 86 = .ok (.aload_n 0, 1) := by decide +kernel
theorem dX12_broken_87 : decode cX12_broken 87 = .ok (.getfield 94, 3) := by decide +kernel
theorem dX12_broken_90 : decode cX12_broken 90 = .ok (.iload 4, 2) := by decide +kernel
theorem dX12_broken_92 : decode cX12_broken 92 = .ok (.iaload, 1) := by decide +kernel
theorem dX12_broken_93 : decode cX12_broken 93 = .ok (.iconst 2, 1) := by decide +kernel
theorem dX12_broken_94 : decode cX12_broken 94 = .ok (.if_icmp .eq 60, 3) := by decide +kernel
theorem dX12_broken_97 : decode cX12_broken 97 = .ok (.iload 5, 2) := by decide +kernel
theorem dX12_broken_99 : decode cX12_broken 99 = .ok (.ifCond .ne 35, 3) := by decide +kernel
theorem dX12_broken_102 : decode cX12_broken 102 = .ok (.aload_n 0, 1) := by decide +kernel
theorem dX12_broken_103 : decode cX12_broken 103 = .ok (.getfield 202, 3) := by decide +kernel
theorem dX12_broken_106 : decode cX12_broken 106 = .ok (.iload_n 2, 1) := by decide +kernel
theorem dX12_broken_107 : decode cX12_broken 107 = .ok (.iaload, 1) := by decide +kernel
theorem dX12_broken_108 : decode cX12_broken 108 = .ok (.aload_n 0, 1) := by decide +kernel
theorem dX12_broken_109 : decode cX12_broken 109 = .ok (.getfield 205, 3) := by decide +kernel
theorem dX12_broken_112 : decode cX12_broken 112 = .ok (.iload_n 2, 1) := by decide +kernel
theorem dX12_broken_113 : decode cX12_broken 113 = .ok (.iaload, 1) := by decide +kernel
theorem dX12_broken_114 : decode cX12_broken 114 = .ok (.aload_n 0, 1) := by decide +kernel
theorem dX12_broken_115 : decode cX12_broken 115 = .ok (.getfield 88, 3) := by decide +kernel
theorem dX12_broken_118 : decode cX12_broken 118 = .ok (.iload 4, 2) := by decide +kernel
theorem dX12_broken_120 : decode cX12_broken 120 = .ok (.iaload, 1) := by decide +kernel
theorem dX12_broken_121 : decode cX12_broken 121 = .ok (.aload_n 0, 1) := by decide +kernel
theorem dX12_broken_122 : decode cX12_broken 122 = .ok (.getfield 91, 3) := by decide +kernel
theorem dX12_broken_125 : decode cX12_broken 125 = .ok (.iload 4, 2) := by decide +kernel
theorem dX12_broken_127 : decode cX12_broken 127 = .ok (.iaload, 1) := by decide +kernel
theorem dX12_broken_128 : decode cX12_broken 128 = .ok (.invokestatic 321, 3) := by decide +kernel
theorem dX12_broken_131 : decode cX12_broken 131 = .ok (.ifCond .eq 23, 3) := by decide +kernel
theorem dX12_broken_134 : decode cX12_broken 134 = .ok (.iload_n 3, 1) := by decide +kernel
theorem dX12_broken_135 : decode cX12_broken 135 = .ok (.ifCond .eq 17, 3) := by decide +kernel
theorem dX12_broken_138 : decode cX12_broken 138 = .ok (.aload_n 0, 1) := by decide +kernel
theorem dX12_broken_139 : decode cX12_broken 139 = .ok (.iload 4, 2) := by decide +kernel
theorem dX12_broken_141 : decode cX12_broken 141 = .ok (.iload_n 2, 1) := by decide +kernel
theorem dX12_broken_142 : decode cX12_broken 142 = .ok (.invokevirtual 395, 3) := by decide +kernel
theorem dX12_broken_145 : decode cX12_broken 145 = .ok (.ifCond .eq 7, 3) := by decide +kernel
theorem dX12_broken_148 : decode cX12_broken 148 = .ok (.iconst 1, 1) := by decide +kernel
theorem dX12_broken_149 : decode cX12_broken 149 = .ok (.goto 4, 3) := by decide +kernel
theorem dX12_broken_152 : decode cX12_broken 152 = .ok (.iconst 0, 1) := by decide +kernel
theorem dX12_broken_153 : decode cX12_broken 153 = .ok (.istore_n 3, 1) := by decide +kernel
theorem dX12_broken_154 : decode cX12_broken 154 = .ok (.iinc 4 1, 3) := by decide +kernel
theorem dX12_broken_157 : decode cX12_broken 157 = .ok (.goto (-128), 3) := by decide +kernel
theorem dX12_broken_160 : decode cX12_broken 160 = .ok (.iload_n 1, 1) := by decide +kernel
theorem dX12_broken_161 : decode cX12_broken 161 = .ok (.iload_n 3, 1) := by decide +kernel
theorem dX12_broken_162 : decode cX12_broken 162 = .ok (.ifCond .eq 7, 3) := by decide +kernel
theorem dX12_broken_165 : decode cX12_broken 165 = .ok (.iconst 0, 1) := by decide +kernel
theorem dX12_broken_166 : decode cX12_broken 166 = .ok (.goto 4, 3) := by decide +kernel
theorem dX12_broken_169 : decode cX12_broken 169 = .ok (.iconst 1, 1) := by decide +kernel
theorem dX12_broken_170 : decode cX12_broken 170 = .ok (.iadd, 1) := by decide +kernel
theorem dX12_broken_171 : decode cX12_broken 171 = .ok (.istore_n 1, 1) := by decide +kernel
theorem dX12_broken_172 : decode cX12_broken 172 = .ok (.iinc 2 1, 3) := by decide +kernel
theorem dX12_broken_175 : decode cX12_broken 175 = .ok (.goto (-166), 3) := by decide +kernel
theorem dX12_broken_178 : decode cX12_broken 178 = .ok (.iload_n 1, 1) := by decide +kernel
theorem dX12_broken_179 : decode cX12_broken 179 = .ok (.ireturn, 1) := by decide +kernel
