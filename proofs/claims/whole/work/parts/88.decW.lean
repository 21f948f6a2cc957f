/-! decode rows of the law -/
theorem d_w_0 : decode code 0 = .ok (.new 8, 3) := by decide +kernel
theorem d_w_3 : decode code 3 = .ok (.dup, 1) := by decide +kernel
theorem d_w_4 : decode code 4 = .ok (.invokespecial 88, 3) := by decide +kernel
theorem d_w_7 : decode code 7 = .ok (.astore_n 1, 1) := by decide +kernel
theorem d_w_8 : decode code 8 = .ok (.new 89, 3) := by decide +kernel
theorem d_w_11 : decode code 11 = .ok (.dup, 1) := by decide +kernel
theorem d_w_12 : decode code 12 = .ok (.invokespecial 91, 3) := by decide +kernel
theorem d_w_15 : decode code 15 = .ok (.astore_n 2, 1) := by decide +kernel
theorem d_w_16 : decode code 16 = .ok (.iconst 1, 1) := by decide +kernel
theorem d_w_17 : decode code 17 = .ok (.newarray .long, 2) := by decide +kernel
theorem d_w_19 : decode code 19 = .ok (.astore_n 3, 1) := by decide +kernel
theorem d_w_20 : decode code 20 = .ok (.iconst 0, 1) := by decide +kernel
theorem d_w_21 : decode code 21 = .ok (.istore 4, 2) := by decide +kernel
theorem d_w_23 : decode code 23 = .ok (.iload 4, 2) := by decide +kernel
theorem d_w_25 : decode code 25 = .ok (.aload_n 0, 1) := by decide +kernel
theorem d_w_26 : decode code 26 = .ok (.arraylength, 1) := by decide +kernel
theorem d_w_27 : decode code 27 = .ok (.bipush 6, 2) := by decide +kernel
theorem d_w_29 : decode code 29 = .ok (.isub, 1) := by decide +kernel
theorem d_w_30 : decode code 30 = .ok (.if_icmp .gt 1419, 3) := by decide +kernel
theorem d_w_33 : decode code 33 = .ok (.aload_n 0, 1) := by decide +kernel
theorem d_w_34 : decode code 34 = .ok (.iload 4, 2) := by decide +kernel
theorem d_w_36 : decode code 36 = .ok (.iaload, 1) := by decide +kernel
theorem d_w_37 : decode code 37 = .ok (.bipush 31, 2) := by decide +kernel
theorem d_w_39 : decode code 39 = .ok (.iand, 1) := by decide +kernel
theorem d_w_40 : decode code 40 = .ok (.tableswitch 1403 0 19 #[96, 176, 252, 312, 372, 432, 532, 592, 652, 712, 784, 844, 912, 968, 1043, 1098, 1198, 1211, 1279, 1347], 96) := by decide +kernel
theorem d_w_136 : decode code 136 = .ok (.aload_n 1, 1) := by decide +kernel
theorem d_w_137 : decode code 137 = .ok (.aload_n 0, 1) := by decide +kernel
theorem d_w_138 : decode code 138 = .ok (.iload 4, 2) := by decide +kernel
theorem d_w_140 : decode code 140 = .ok (.iconst 1, 1) := by decide +kernel
theorem d_w_141 : decode code 141 = .ok (.iadd, 1) := by decide +kernel
theorem d_w_142 : decode code 142 = .ok (.iaload, 1) := by decide +kernel
theorem d_w_143 : decode code 143 = .ok (.aload_n 0, 1) := by decide +kernel
theorem d_w_144 : decode code 144 = .ok (.iload 4, 2) := by decide +kernel
theorem d_w_146 : decode code 146 = .ok (.iconst 2, 1) := by decide +kernel
theorem d_w_147 : decode code 147 = .ok (.iadd, 1) := by decide +kernel
theorem d_w_148 : decode code 148 = .ok (.iaload, 1) := by decide +kernel
theorem d_w_149 : decode code 149 = .ok (.i2l, 1) := by decide +kernel
theorem d_w_150 : decode code 150 = .ok (.bipush 32, 2) := by decide +kernel
theorem d_w_152 : decode code 152 = .ok (.lshl, 1) := by decide +kernel
theorem d_w_153 : decode code 153 = .ok (.aload_n 0, 1) := by decide +kernel
theorem d_w_154 : decode code 154 = .ok (.iload 4, 2) := by decide +kernel
theorem d_w_156 : decode code 156 = .ok (.iconst 3, 1) := by decide +kernel
theorem d_w_157 : decode code 157 = .ok (.iadd, 1) := by decide +kernel
theorem d_w_158 : decode code 158 = .ok (.iaload, 1) := by decide +kernel
theorem d_w_159 : decode code 159 = .ok (.i2l, 1) := by decide +kernel
theorem d_w_160 : decode code 160 = .ok (.ldc2_w 92, 3) := by decide +kernel
theorem d_w_163 : decode code 163 = .ok (.land, 1) := by decide +kernel
theorem d_w_164 : decode code 164 = .ok (.lor, 1) := by decide +kernel
theorem d_w_165 : decode code 165 = .ok (.invokestatic 94, 3) := by decide +kernel
theorem d_w_168 : decode code 168 = .ok (.istore 5, 2) := by decide +kernel
theorem d_w_170 : decode code 170 = .ok (.aload_n 2, 1) := by decide +kernel
theorem d_w_171 : decode code 171 = .ok (.aload_n 0, 1) := by decide +kernel
theorem d_w_172 : decode code 172 = .ok (.iload 4, 2) := by decide +kernel
theorem d_w_174 : decode code 174 = .ok (.iconst 1, 1) := by decide +kernel
theorem d_w_175 : decode code 175 = .ok (.iadd, 1) := by decide +kernel
theorem d_w_176 : decode code 176 = .ok (.iaload, 1) := by decide +kernel
theorem d_w_177 : decode code 177 = .ok (.aload_n 0, 1) := by decide +kernel
theorem d_w_178 : decode code 178 = .ok (.iload 4, 2) := by decide +kernel
theorem d_w_180 : decode code 180 = .ok (.iconst 2, 1) := by decide +kernel
theorem d_w_181 : decode code 181 = .ok (.iadd, 1) := by decide +kernel
theorem d_w_182 : decode code 182 = .ok (.iaload, 1) := by decide +kernel
theorem d_w_183 : decode code 183 = .ok (.i2l, 1) := by decide +kernel
theorem d_w_184 : decode code 184 = .ok (.bipush 32, 2) := by decide +kernel
theorem d_w_186 : decode code 186 = .ok (.lshl, 1) := by decide +kernel
theorem d_w_187 : decode code 187 = .ok (.aload_n 0, 1) := by decide +kernel
theorem d_w_188 : decode code 188 = .ok (.iload 4, 2) := by decide +kernel
theorem d_w_190 : decode code 190 = .ok (.iconst 3, 1) := by decide +kernel
theorem d_w_191 : decode code 191 = .ok (.iadd, 1) := by decide +kernel
theorem d_w_192 : decode code 192 = .ok (.iaload, 1) := by decide +kernel
theorem d_w_193 : decode code 193 = .ok (.i2l, 1) := by decide +kernel
theorem d_w_194 : decode code 194 = .ok (.ldc2_w 92, 3) := by decide +kernel
theorem d_w_197 : decode code 197 = .ok (.land, 1) := by decide +kernel
theorem d_w_198 : decode code 198 = .ok (.lor, 1) := by decide +kernel
theorem d_w_199 : decode code 199 = .ok (.invokevirtual 99, 3) := by decide +kernel
theorem d_w_202 : decode code 202 = .ok (.aload_n 2, 1) := by decide +kernel
theorem d_w_203 : decode code 203 = .ok (.invokevirtual 100, 3) := by decide +kernel
theorem d_w_206 : decode code 206 = .ok (.iload 5, 2) := by decide +kernel
theorem d_w_208 : decode code 208 = .ok (.if_icmp .eq 5, 3) := by decide +kernel
theorem d_w_211 : decode code 211 = .ok (.iconst 0, 1) := by decide +kernel
theorem d_w_212 : decode code 212 = .ok (.ireturn, 1) := by decide +kernel
theorem d_w_213 : decode code 213 = .ok (.goto 1230, 3) := by decide +kernel
theorem d_w_216 : decode code 216 = .ok (.aload_n 1, 1) := by decide +kernel
theorem d_w_217 : decode code 217 = .ok (.aload_n 0, 1) := by decide +kernel
theorem d_w_218 : decode code 218 = .ok (.iload 4, 2) := by decide +kernel
theorem d_w_220 : decode code 220 = .ok (.iconst 1, 1) := by decide +kernel
theorem d_w_221 : decode code 221 = .ok (.iadd, 1) := by decide +kernel
theorem d_w_222 : decode code 222 = .ok (.iaload, 1) := by decide +kernel
theorem d_w_223 : decode code 223 = .ok (.aload_n 0, 1) := by decide +kernel
theorem d_w_224 : decode code 224 = .ok (.iload 4, 2) := by decide +kernel
theorem d_w_226 : decode code 226 = .ok (.iconst 2, 1) := by decide +kernel
theorem d_w_227 : decode code 227 = .ok (.iadd, 1) := by decide +kernel
theorem d_w_228 : decode code 228 = .ok (.iaload, 1) := by decide +kernel
theorem d_w_229 : decode code 229 = .ok (.aload_n 0, 1) := by decide +kernel
theorem d_w_230 : decode code 230 = .ok (.iload 4, 2) := by decide +kernel
theorem d_w_232 : decode code 232 = .ok (.iconst 3, 1) := by decide +kernel
theorem d_w_233 : decode code 233 = .ok (.iadd, 1) := by decide +kernel
theorem d_w_234 : decode code 234 = .ok (.iaload, 1) := by decide +kernel
theorem d_w_235 : decode code 235 = .ok (.ifCond .eq 7, 3) := by decide +kernel
theorem d_w_238 : decode code 238 = .ok (.iconst 1, 1) := by decide +kernel
theorem d_w_239 : decode code 239 = .ok (.goto 4, 3) := by decide +kernel
theorem d_w_242 : decode code 242 = .ok (.iconst 0, 1) := by decide +kernel
theorem d_w_243 : decode code 243 = .ok (.invokestatic 104, 3) := by decide +kernel
theorem d_w_246 : decode code 246 = .ok (.istore 5, 2) := by decide +kernel
theorem d_w_248 : decode code 248 = .ok (.aload_n 2, 1) := by decide +kernel
theorem d_w_249 : decode code 249 = .ok (.aload_n 0, 1) := by decide +kernel
theorem d_w_250 : decode code 250 = .ok (.iload 4, 2) := by decide +kernel
theorem d_w_252 : decode code 252 = .ok (.iconst 1, 1) := by decide +kernel
theorem d_w_253 : decode code 253 = .ok (.iadd, 1) := by decide +kernel
theorem d_w_254 : decode code 254 = .ok (.iaload, 1) := by decide +kernel
theorem d_w_255 : decode code 255 = .ok (.aload_n 0, 1) := by decide +kernel
theorem d_w_256 : decode code 256 = .ok (.iload 4, 2) := by decide +kernel
theorem d_w_258 : decode code 258 = .ok (.iconst 2, 1) := by decide +kernel
theorem d_w_259 : decode code 259 = .ok (.iadd, 1) := by decide +kernel
theorem d_w_260 : decode code 260 = .ok (.iaload, 1) := by decide +kernel
theorem d_w_261 : decode code 261 = .ok (.aload_n 0, 1) := by decide +kernel
theorem d_w_262 : decode code 262 = .ok (.iload 4, 2) := by decide +kernel
theorem d_w_264 : decode code 264 = .ok (.iconst 3, 1) := by decide +kernel
theorem d_w_265 : decode code 265 = .ok (.iadd, 1) := by decide +kernel
theorem d_w_266 : decode code 266 = .ok (.iaload, 1) := by decide +kernel
theorem d_w_267 : decode code 267 = .ok (.ifCond .eq 7, 3) := by decide +kernel
theorem d_w_270 : decode code 270 = .ok (.iconst 1, 1) := by decide +kernel
theorem d_w_271 : decode code 271 = .ok (.goto 4, 3) := by decide +kernel
theorem d_w_274 : decode code 274 = .ok (.iconst 0, 1) := by decide +kernel
theorem d_w_275 : decode code 275 = .ok (.invokevirtual 107, 3) := by decide +kernel
theorem d_w_278 : decode code 278 = .ok (.aload_n 2, 1) := by decide +kernel
theorem d_w_279 : decode code 279 = .ok (.invokevirtual 100, 3) := by decide +kernel
theorem d_w_282 : decode code 282 = .ok (.iload 5, 2) := by decide +kernel
theorem d_w_284 : decode code 284 = .ok (.if_icmp .eq 5, 3) := by decide +kernel
theorem d_w_287 : decode code 287 = .ok (.iconst 0, 1) := by decide +kernel
theorem d_w_288 : decode code 288 = .ok (.ireturn, 1) := by decide +kernel
theorem d_w_289 : decode code 289 = .ok (.goto 1154, 3) := by decide +kernel
theorem d_w_292 : decode code 292 = .ok (.aload_n 1, 1) := by decide +kernel
theorem d_w_293 : decode code 293 = .ok (.aload_n 0, 1) := by decide +kernel
theorem d_w_294 : decode code 294 = .ok (.iload 4, 2) := by decide +kernel
theorem d_w_296 : decode code 296 = .ok (.iconst 1, 1) := by decide +kernel
theorem d_w_297 : decode code 297 = .ok (.iadd, 1) := by decide +kernel
theorem d_w_298 : decode code 298 = .ok (.iaload, 1) := by decide +kernel
theorem d_w_299 : decode code 299 = .ok (.aload_n 0, 1) := by decide +kernel
theorem d_w_300 : decode code 300 = .ok (.iload 4, 2) := by decide +kernel
theorem d_w_302 : decode code 302 = .ok (.iconst 2, 1) := by decide +kernel
theorem d_w_303 : decode code 303 = .ok (.iadd, 1) := by decide +kernel
theorem d_w_304 : decode code 304 = .ok (.iaload, 1) := by decide +kernel
theorem d_w_305 : decode code 305 = .ok (.aload_n 0, 1) := by decide +kernel
theorem d_w_306 : decode code 306 = .ok (.iload 4, 2) := by decide +kernel
theorem d_w_308 : decode code 308 = .ok (.iconst 3, 1) := by decide +kernel
theorem d_w_309 : decode code 309 = .ok (.iadd, 1) := by decide +kernel
theorem d_w_310 : decode code 310 = .ok (.iaload, 1) := by decide +kernel
theorem d_w_311 : decode code 311 = .ok (.invokestatic 108, 3) := by decide +kernel
theorem d_w_314 : decode code 314 = .ok (.istore 5, 2) := by decide +kernel
theorem d_w_316 : decode code 316 = .ok (.aload_n 2, 1) := by decide +kernel
theorem d_w_317 : decode code 317 = .ok (.aload_n 0, 1) := by decide +kernel
theorem d_w_318 : decode code 318 = .ok (.iload 4, 2) := by decide +kernel
theorem d_w_320 : decode code 320 = .ok (.iconst 1, 1) := by decide +kernel
theorem d_w_321 : decode code 321 = .ok (.iadd, 1) := by decide +kernel
theorem d_w_322 : decode code 322 = .ok (.iaload, 1) := by decide +kernel
theorem d_w_323 : decode code 323 = .ok (.aload_n 0, 1) := by decide +kernel
theorem d_w_324 : decode code 324 = .ok (.iload 4, 2) := by decide +kernel
theorem d_w_326 : decode code 326 = .ok (.iconst 2, 1) := by decide +kernel
theorem d_w_327 : decode code 327 = .ok (.iadd, 1) := by decide +kernel
theorem d_w_328 : decode code 328 = .ok (.iaload, 1) := by decide +kernel
theorem d_w_329 : decode code 329 = .ok (.aload_n 0, 1) := by decide +kernel
theorem d_w_330 : decode code 330 = .ok (.iload 4, 2) := by decide +kernel
theorem d_w_332 : decode code 332 = .ok (.iconst 3, 1) := by decide +kernel
theorem d_w_333 : decode code 333 = .ok (.iadd, 1) := by decide +kernel
theorem d_w_334 : decode code 334 = .ok (.iaload, 1) := by decide +kernel
theorem d_w_335 : decode code 335 = .ok (.invokevirtual 111, 3) := by decide +kernel
theorem d_w_338 : decode code 338 = .ok (.aload_n 2, 1) := by decide +kernel
theorem d_w_339 : decode code 339 = .ok (.invokevirtual 100, 3) := by decide +kernel
theorem d_w_342 : decode code 342 = .ok (.iload 5, 2) := by decide +kernel
theorem d_w_344 : decode code 344 = .ok (.if_icmp .eq 5, 3) := by decide +kernel
theorem d_w_347 : decode code 347 = .ok (.iconst 0, 1) := by decide +kernel
theorem d_w_348 : decode code 348 = .ok (.ireturn, 1) := by decide +kernel
theorem d_w_349 : decode code 349 = .ok (.goto 1094, 3) := by decide +kernel
theorem d_w_352 : decode code 352 = .ok (.aload_n 1, 1) := by decide +kernel
theorem d_w_353 : decode code 353 = .ok (.aload_n 0, 1) := by decide +kernel
theorem d_w_354 : decode code 354 = .ok (.iload 4, 2) := by decide +kernel
theorem d_w_356 : decode code 356 = .ok (.iconst 1, 1) := by decide +kernel
theorem d_w_357 : decode code 357 = .ok (.iadd, 1) := by decide +kernel
theorem d_w_358 : decode code 358 = .ok (.iaload, 1) := by decide +kernel
theorem d_w_359 : decode code 359 = .ok (.aload_n 0, 1) := by decide +kernel
theorem d_w_360 : decode code 360 = .ok (.iload 4, 2) := by decide +kernel
theorem d_w_362 : decode code 362 = .ok (.iconst 2, 1) := by decide +kernel
theorem d_w_363 : decode code 363 = .ok (.iadd, 1) := by decide +kernel
theorem d_w_364 : decode code 364 = .ok (.iaload, 1) := by decide +kernel
theorem d_w_365 : decode code 365 = .ok (.aload_n 0, 1) := by decide +kernel
theorem d_w_366 : decode code 366 = .ok (.iload 4, 2) := by decide +kernel
theorem d_w_368 : decode code 368 = .ok (.iconst 3, 1) := by decide +kernel
theorem d_w_369 : decode code 369 = .ok (.iadd, 1) := by decide +kernel
theorem d_w_370 : decode code 370 = .ok (.iaload, 1) := by decide +kernel
theorem d_w_371 : decode code 371 = .ok (.invokestatic 112, 3) := by decide +kernel
theorem d_w_374 : decode code 374 = .ok (.istore 5, 2) := by decide +kernel
theorem d_w_376 : decode code 376 = .ok (.aload_n 2, 1) := by decide +kernel
theorem d_w_377 : decode code 377 = .ok (.aload_n 0, 1) := by decide +kernel
theorem d_w_378 : decode code 378 = .ok (.iload 4, 2) := by decide +kernel
theorem d_w_380 : decode code 380 = .ok (.iconst 1, 1) := by decide +kernel
theorem d_w_381 : decode code 381 = .ok (.iadd, 1) := by decide +kernel
theorem d_w_382 : decode code 382 = .ok (.iaload, 1) := by decide +kernel
theorem d_w_383 : decode code 383 = .ok (.aload_n 0, 1) := by decide +kernel
theorem d_w_384 : decode code 384 = .ok (.iload 4, 2) := by decide +kernel
theorem d_w_386 : decode code 386 = .ok (.iconst 2, 1) := by decide +kernel
theorem d_w_387 : decode code 387 = .ok (.iadd, 1) := by decide +kernel
theorem d_w_388 : decode code 388 = .ok (.iaload, 1) := by decide +kernel
theorem d_w_389 : decode code 389 = .ok (.aload_n 0, 1) := by decide +kernel
theorem d_w_390 : decode code 390 = .ok (.iload 4, 2) := by decide +kernel
theorem d_w_392 : decode code 392 = .ok (.iconst 3, 1) := by decide +kernel
theorem d_w_393 : decode code 393 = .ok (.iadd, 1) := by decide +kernel
theorem d_w_394 : decode code 394 = .ok (.iaload, 1) := by decide +kernel
theorem d_w_395 : decode code 395 = .ok (.invokevirtual 114, 3) := by decide +kernel
theorem d_w_398 : decode code 398 = .ok (.aload_n 2, 1) := by decide +kernel
theorem d_w_399 : decode code 399 = .ok (.invokevirtual 100, 3) := by decide +kernel
theorem d_w_402 : decode code 402 = .ok (.iload 5, 2) := by decide +kernel
theorem d_w_404 : decode code 404 = .ok (.if_icmp .eq 5, 3) := by decide +kernel
theorem d_w_407 : decode code 407 = .ok (.iconst 0, 1) := by decide +kernel
theorem d_w_408 : decode code 408 = .ok (.ireturn, 1) := by decide +kernel
theorem d_w_409 : decode code 409 = .ok (.goto 1034, 3) := by decide +kernel
theorem d_w_412 : decode code 412 = .ok (.aload_n 1, 1) := by decide +kernel
theorem d_w_413 : decode code 413 = .ok (.aload_n 0, 1) := by decide +kernel
theorem d_w_414 : decode code 414 = .ok (.iload 4, 2) := by decide +kernel
theorem d_w_416 : decode code 416 = .ok (.iconst 1, 1) := by decide +kernel
theorem d_w_417 : decode code 417 = .ok (.iadd, 1) := by decide +kernel
theorem d_w_418 : decode code 418 = .ok (.iaload, 1) := by decide +kernel
theorem d_w_419 : decode code 419 = .ok (.aload_n 0, 1) := by decide +kernel
theorem d_w_420 : decode code 420 = .ok (.iload 4, 2) := by decide +kernel
theorem d_w_422 : decode code 422 = .ok (.iconst 2, 1) := by decide +kernel
theorem d_w_423 : decode code 423 = .ok (.iadd, 1) := by decide +kernel
theorem d_w_424 : decode code 424 = .ok (.iaload, 1) := by decide +kernel
theorem d_w_425 : decode code 425 = .ok (.aload_n 0, 1) := by decide +kernel
theorem d_w_426 : decode code 426 = .ok (.iload 4, 2) := by decide +kernel
theorem d_w_428 : decode code 428 = .ok (.iconst 3, 1) := by decide +kernel
theorem d_w_429 : decode code 429 = .ok (.iadd, 1) := by decide +kernel
theorem d_w_430 : decode code 430 = .ok (.iaload, 1) := by decide +kernel
theorem d_w_431 : decode code 431 = .ok (.invokestatic 115, 3) := by decide +kernel
theorem d_w_434 : decode code 434 = .ok (.istore 5, 2) := by decide +kernel
theorem d_w_436 : decode code 436 = .ok (.aload_n 2, 1) := by decide +kernel
theorem d_w_437 : decode code 437 = .ok (.aload_n 0, 1) := by decide +kernel
theorem d_w_438 : decode code 438 = .ok (.iload 4, 2) := by decide +kernel
theorem d_w_440 : decode code 440 = .ok (.iconst 1, 1) := by decide +kernel
theorem d_w_441 : decode code 441 = .ok (.iadd, 1) := by decide +kernel
theorem d_w_442 : decode code 442 = .ok (.iaload, 1) := by decide +kernel
theorem d_w_443 : decode code 443 = .ok (.aload_n 0, 1) := by decide +kernel
theorem d_w_444 : decode code 444 = .ok (.iload 4, 2) := by decide +kernel
theorem d_w_446 : decode code 446 = .ok (.iconst 2, 1) := by decide +kernel
theorem d_w_447 : decode code 447 = .ok (.iadd, 1) := by decide +kernel
theorem d_w_448 : decode code 448 = .ok (.iaload, 1) := by decide +kernel
theorem d_w_449 : decode code 449 = .ok (.aload_n 0, 1) := by decide +kernel
theorem d_w_450 : decode code 450 = .ok (.iload 4, 2) := by decide +kernel
theorem d_w_452 : decode code 452 = .ok (.iconst 3, 1) := by decide +kernel
theorem d_w_453 : decode code 453 = .ok (.iadd, 1) := by decide +kernel
theorem d_w_454 : decode code 454 = .ok (.iaload, 1) := by decide +kernel
theorem d_w_455 : decode code 455 = .ok (.invokevirtual 117, 3) := by decide +kernel
theorem d_w_458 : decode code 458 = .ok (.aload_n 2, 1) := by decide +kernel
theorem d_w_459 : decode code 459 = .ok (.invokevirtual 100, 3) := by decide +kernel
theorem d_w_462 : decode code 462 = .ok (.iload 5, 2) := by decide +kernel
theorem d_w_464 : decode code 464 = .ok (.if_icmp .eq 5, 3) := by decide +kernel
theorem d_w_467 : decode code 467 = .ok (.iconst 0, 1) := by decide +kernel
theorem d_w_468 : decode code 468 = .ok (.ireturn, 1) := by decide +kernel
theorem d_w_469 : decode code 469 = .ok (.goto 974, 3) := by decide +kernel
theorem d_w_472 : decode code 472 = .ok (.aload_n 1, 1) := by decide +kernel
theorem d_w_473 : decode code 473 = .ok (.aload_n 0, 1) := by decide +kernel
theorem d_w_474 : decode code 474 = .ok (.iload 4, 2) := by decide +kernel
theorem d_w_476 : decode code 476 = .ok (.iconst 1, 1) := by decide +kernel
theorem d_w_477 : decode code 477 = .ok (.iadd, 1) := by decide +kernel
theorem d_w_478 : decode code 478 = .ok (.iaload, 1) := by decide +kernel
theorem d_w_479 : decode code 479 = .ok (.aload_n 0, 1) := by decide +kernel
theorem d_w_480 : decode code 480 = .ok (.iload 4, 2) := by decide +kernel
theorem d_w_482 : decode code 482 = .ok (.iconst 2, 1) := by decide +kernel
theorem d_w_483 : decode code 483 = .ok (.iadd, 1) := by decide +kernel
theorem d_w_484 : decode code 484 = .ok (.iaload, 1) := by decide +kernel
theorem d_w_485 : decode code 485 = .ok (.aload_n 0, 1) := by decide +kernel
theorem d_w_486 : decode code 486 = .ok (.iload 4, 2) := by decide +kernel
theorem d_w_488 : decode code 488 = .ok (.iconst 3, 1) := by decide +kernel
theorem d_w_489 : decode code 489 = .ok (.iadd, 1) := by decide +kernel
theorem d_w_490 : decode code 490 = .ok (.iaload, 1) := by decide +kernel
theorem d_w_491 : decode code 491 = .ok (.aload_n 0, 1) := by decide +kernel
theorem d_w_492 : decode code 492 = .ok (.iload 4, 2) := by decide +kernel
theorem d_w_494 : decode code 494 = .ok (.iconst 4, 1) := by decide +kernel
theorem d_w_495 : decode code 495 = .ok (.iadd, 1) := by decide +kernel
theorem d_w_496 : decode code 496 = .ok (.iaload, 1) := by decide +kernel
theorem d_w_497 : decode code 497 = .ok (.aload_n 0, 1) := by decide +kernel
theorem d_w_498 : decode code 498 = .ok (.iload 4, 2) := by decide +kernel
theorem d_w_500 : decode code 500 = .ok (.iconst 5, 1) := by decide +kernel
theorem d_w_501 : decode code 501 = .ok (.iadd, 1) := by decide +kernel
theorem d_w_502 : decode code 502 = .ok (.iaload, 1) := by decide +kernel
theorem d_w_503 : decode code 503 = .ok (.ifCond .eq 7, 3) := by decide +kernel
theorem d_w_506 : decode code 506 = .ok (.iconst 1, 1) := by decide +kernel
theorem d_w_507 : decode code 507 = .ok (.goto 4, 3) := by decide +kernel
theorem d_w_510 : decode code 510 = .ok (.iconst 0, 1) := by decide +kernel
theorem d_w_511 : decode code 511 = .ok (.invokestatic 118, 3) := by decide +kernel
theorem d_w_514 : decode code 514 = .ok (.istore 5, 2) := by decide +kernel
theorem d_w_516 : decode code 516 = .ok (.aload_n 2, 1) := by decide +kernel
theorem d_w_517 : decode code 517 = .ok (.aload_n 0, 1) := by decide +kernel
theorem d_w_518 : decode code 518 = .ok (.iload 4, 2) := by decide +kernel
theorem d_w_520 : decode code 520 = .ok (.iconst 1, 1) := by decide +kernel
theorem d_w_521 : decode code 521 = .ok (.iadd, 1) := by decide +kernel
theorem d_w_522 : decode code 522 = .ok (.iaload, 1) := by decide +kernel
theorem d_w_523 : decode code 523 = .ok (.aload_n 0, 1) := by decide +kernel
theorem d_w_524 : decode code 524 = .ok (.iload 4, 2) := by decide +kernel
theorem d_w_526 : decode code 526 = .ok (.iconst 2, 1) := by decide +kernel
theorem d_w_527 : decode code 527 = .ok (.iadd, 1) := by decide +kernel
theorem d_w_528 : decode code 528 = .ok (.iaload, 1) := by decide +kernel
theorem d_w_529 : decode code 529 = .ok (.aload_n 0, 1) := by decide +kernel
theorem d_w_530 : decode code 530 = .ok (.iload 4, 2) := by decide +kernel
theorem d_w_532 : decode code 532 = .ok (.iconst 3, 1) := by decide +kernel
theorem d_w_533 : decode code 533 = .ok (.iadd, 1) := by decide +kernel
theorem d_w_534 : decode code 534 = .ok (.iaload, 1) := by decide +kernel
theorem d_w_535 : decode code 535 = .ok (.aload_n 0, 1) := by decide +kernel
theorem d_w_536 : decode code 536 = .ok (.iload 4, 2) := by decide +kernel
theorem d_w_538 : decode code 538 = .ok (.iconst 4, 1) := by decide +kernel
theorem d_w_539 : decode code 539 = .ok (.iadd, 1) := by decide +kernel
theorem d_w_540 : decode code 540 = .ok (.iaload, 1) := by decide +kernel
theorem d_w_541 : decode code 541 = .ok (.aload_n 0, 1) := by decide +kernel
theorem d_w_542 : decode code 542 = .ok (.iload 4, 2) := by decide +kernel
theorem d_w_544 : decode code 544 = .ok (.iconst 5, 1) := by decide +kernel
theorem d_w_545 : decode code 545 = .ok (.iadd, 1) := by decide +kernel
theorem d_w_546 : decode code 546 = .ok (.iaload, 1) := by decide +kernel
theorem d_w_547 : decode code 547 = .ok (.ifCond .eq 7, 3) := by decide +kernel
theorem d_w_550 : decode code 550 = .ok (.iconst 1, 1) := by decide +kernel
theorem d_w_551 : decode code 551 = .ok (.goto 4, 3) := by decide +kernel
theorem d_w_554 : decode code 554 = .ok (.iconst 0, 1) := by decide +kernel
theorem d_w_555 : decode code 555 = .ok (.invokevirtual 121, 3) := by decide +kernel
theorem d_w_558 : decode code 558 = .ok (.aload_n 2, 1) := by decide +kernel
theorem d_w_559 : decode code 559 = .ok (.invokevirtual 100, 3) := by decide +kernel
theorem d_w_562 : decode code 562 = .ok (.iload 5, 2) := by decide +kernel
theorem d_w_564 : decode code 564 = .ok (.if_icmp .eq 5, 3) := by decide +kernel
theorem d_w_567 : decode code 567 = .ok (.iconst 0, 1) := by decide +kernel
theorem d_w_568 : decode code 568 = .ok (.ireturn, 1) := by decide +kernel
theorem d_w_569 : decode code 569 = .ok (.goto 874, 3) := by decide +kernel
theorem d_w_572 : decode code 572 = .ok (.aload_n 1, 1) := by decide +kernel
theorem d_w_573 : decode code 573 = .ok (.aload_n 0, 1) := by decide +kernel
theorem d_w_574 : decode code 574 = .ok (.iload 4, 2) := by decide +kernel
theorem d_w_576 : decode code 576 = .ok (.iconst 1, 1) := by decide +kernel
theorem d_w_577 : decode code 577 = .ok (.iadd, 1) := by decide +kernel
theorem d_w_578 : decode code 578 = .ok (.iaload, 1) := by decide +kernel
theorem d_w_579 : decode code 579 = .ok (.aload_n 0, 1) := by decide +kernel
theorem d_w_580 : decode code 580 = .ok (.iload 4, 2) := by decide +kernel
theorem d_w_582 : decode code 582 = .ok (.iconst 2, 1) := by decide +kernel
theorem d_w_583 : decode code 583 = .ok (.iadd, 1) := by decide +kernel
theorem d_w_584 : decode code 584 = .ok (.iaload, 1) := by decide +kernel
theorem d_w_585 : decode code 585 = .ok (.aload_n 0, 1) := by decide +kernel
theorem d_w_586 : decode code 586 = .ok (.iload 4, 2) := by decide +kernel
theorem d_w_588 : decode code 588 = .ok (.iconst 3, 1) := by decide +kernel
theorem d_w_589 : decode code 589 = .ok (.iadd, 1) := by decide +kernel
theorem d_w_590 : decode code 590 = .ok (.iaload, 1) := by decide +kernel
theorem d_w_591 : decode code 591 = .ok (.invokestatic 122, 3) := by decide +kernel
theorem d_w_594 : decode code 594 = .ok (.istore 5, 2) := by decide +kernel
theorem d_w_596 : decode code 596 = .ok (.aload_n 2, 1) := by decide +kernel
theorem d_w_597 : decode code 597 = .ok (.aload_n 0, 1) := by decide +kernel
theorem d_w_598 : decode code 598 = .ok (.iload 4, 2) := by decide +kernel
theorem d_w_600 : decode code 600 = .ok (.iconst 1, 1) := by decide +kernel
theorem d_w_601 : decode code 601 = .ok (.iadd, 1) := by decide +kernel
theorem d_w_602 : decode code 602 = .ok (.iaload, 1) := by decide +kernel
theorem d_w_603 : decode code 603 = .ok (.aload_n 0, 1) := by decide +kernel
theorem d_w_604 : decode code 604 = .ok (.iload 4, 2) := by decide +kernel
theorem d_w_606 : decode code 606 = .ok (.iconst 2, 1) := by decide +kernel
theorem d_w_607 : decode code 607 = .ok (.iadd, 1) := by decide +kernel
theorem d_w_608 : decode code 608 = .ok (.iaload, 1) := by decide +kernel
theorem d_w_609 : decode code 609 = .ok (.aload_n 0, 1) := by decide +kernel
theorem d_w_610 : decode code 610 = .ok (.iload 4, 2) := by decide +kernel
theorem d_w_612 : decode code 612 = .ok (.iconst 3, 1) := by decide +kernel
theorem d_w_613 : decode code 613 = .ok (.iadd, 1) := by decide +kernel
theorem d_w_614 : decode code 614 = .ok (.iaload, 1) := by decide +kernel
theorem d_w_615 : decode code 615 = .ok (.invokevirtual 124, 3) := by decide +kernel
theorem d_w_618 : decode code 618 = .ok (.aload_n 2, 1) := by decide +kernel
theorem d_w_619 : decode code 619 = .ok (.invokevirtual 100, 3) := by decide +kernel
theorem d_w_622 : decode code 622 = .ok (.iload 5, 2) := by decide +kernel
theorem d_w_624 : decode code 624 = .ok (.if_icmp .eq 5, 3) := by decide +kernel
theorem d_w_627 : decode code 627 = .ok (.iconst 0, 1) := by decide +kernel
theorem d_w_628 : decode code 628 = .ok (.ireturn, 1) := by decide +kernel
theorem d_w_629 : decode code 629 = .ok (.goto 814, 3) := by decide +kernel
theorem d_w_632 : decode code 632 = .ok (.aload_n 1, 1) := by decide +kernel
theorem d_w_633 : decode code 633 = .ok (.aload_n 0, 1) := by decide +kernel
theorem d_w_634 : decode code 634 = .ok (.iload 4, 2) := by decide +kernel
theorem d_w_636 : decode code 636 = .ok (.iconst 1, 1) := by decide +kernel
theorem d_w_637 : decode code 637 = .ok (.iadd, 1) := by decide +kernel
theorem d_w_638 : decode code 638 = .ok (.iaload, 1) := by decide +kernel
theorem d_w_639 : decode code 639 = .ok (.aload_n 0, 1) := by decide +kernel
theorem d_w_640 : decode code 640 = .ok (.iload 4, 2) := by decide +kernel
theorem d_w_642 : decode code 642 = .ok (.iconst 2, 1) := by decide +kernel
theorem d_w_643 : decode code 643 = .ok (.iadd, 1) := by decide +kernel
theorem d_w_644 : decode code 644 = .ok (.iaload, 1) := by decide +kernel
theorem d_w_645 : decode code 645 = .ok (.aload_n 0, 1) := by decide +kernel
theorem d_w_646 : decode code 646 = .ok (.iload 4, 2) := by decide +kernel
theorem d_w_648 : decode code 648 = .ok (.iconst 3, 1) := by decide +kernel
theorem d_w_649 : decode code 649 = .ok (.iadd, 1) := by decide +kernel
theorem d_w_650 : decode code 650 = .ok (.iaload, 1) := by decide +kernel
theorem d_w_651 : decode code 651 = .ok (.invokestatic 125, 3) := by decide +kernel
theorem d_w_654 : decode code 654 = .ok (.istore 5, 2) := by decide +kernel
theorem d_w_656 : decode code 656 = .ok (.aload_n 2, 1) := by decide +kernel
theorem d_w_657 : decode code 657 = .ok (.aload_n 0, 1) := by decide +kernel
theorem d_w_658 : decode code 658 = .ok (.iload 4, 2) := by decide +kernel
theorem d_w_660 : decode code 660 = .ok (.iconst 1, 1) := by decide +kernel
theorem d_w_661 : decode code 661 = .ok (.iadd, 1) := by decide +kernel
theorem d_w_662 : decode code 662 = .ok (.iaload, 1) := by decide +kernel
theorem d_w_663 : decode code 663 = .ok (.aload_n 0, 1) := by decide +kernel
theorem d_w_664 : decode code 664 = .ok (.iload 4, 2) := by decide +kernel
theorem d_w_666 : decode code 666 = .ok (.iconst 2, 1) := by decide +kernel
theorem d_w_667 : decode code 667 = .ok (.iadd, 1) := by decide +kernel
theorem d_w_668 : decode code 668 = .ok (.iaload, 1) := by decide +kernel
theorem d_w_669 : decode code 669 = .ok (.aload_n 0, 1) := by decide +kernel
theorem d_w_670 : decode code 670 = .ok (.iload 4, 2) := by decide +kernel
theorem d_w_672 : decode code 672 = .ok (.iconst 3, 1) := by decide +kernel
theorem d_w_673 : decode code 673 = .ok (.iadd, 1) := by decide +kernel
theorem d_w_674 : decode code 674 = .ok (.iaload, 1) := by decide +kernel
theorem d_w_675 : decode code 675 = .ok (.invokevirtual 127, 3) := by decide +kernel
theorem d_w_678 : decode code 678 = .ok (.aload_n 2, 1) := by decide +kernel
theorem d_w_679 : decode code 679 = .ok (.invokevirtual 100, 3) := by decide +kernel
theorem d_w_682 : decode code 682 = .ok (.iload 5, 2) := by decide +kernel
theorem d_w_684 : decode code 684 = .ok (.if_icmp .eq 5, 3) := by decide +kernel
theorem d_w_687 : decode code 687 = .ok (.iconst 0, 1) := by decide +kernel
theorem d_w_688 : decode code 688 = .ok (.ireturn, 1) := by decide +kernel
theorem d_w_689 : decode code 689 = .ok (.goto 754, 3) := by decide +kernel
theorem d_w_692 : decode code 692 = .ok (.aload_n 1, 1) := by decide +kernel
theorem d_w_693 : decode code 693 = .ok (.aload_n 0, 1) := by decide +kernel
theorem d_w_694 : decode code 694 = .ok (.iload 4, 2) := by decide +kernel
theorem d_w_696 : decode code 696 = .ok (.iconst 1, 1) := by decide +kernel
theorem d_w_697 : decode code 697 = .ok (.iadd, 1) := by decide +kernel
theorem d_w_698 : decode code 698 = .ok (.iaload, 1) := by decide +kernel
theorem d_w_699 : decode code 699 = .ok (.aload_n 0, 1) := by decide +kernel
theorem d_w_700 : decode code 700 = .ok (.iload 4, 2) := by decide +kernel
theorem d_w_702 : decode code 702 = .ok (.iconst 2, 1) := by decide +kernel
theorem d_w_703 : decode code 703 = .ok (.iadd, 1) := by decide +kernel
theorem d_w_704 : decode code 704 = .ok (.iaload, 1) := by decide +kernel
theorem d_w_705 : decode code 705 = .ok (.aload_n 0, 1) := by decide +kernel
theorem d_w_706 : decode code 706 = .ok (.iload 4, 2) := by decide +kernel
theorem d_w_708 : decode code 708 = .ok (.iconst 3, 1) := by decide +kernel
theorem d_w_709 : decode code 709 = .ok (.iadd, 1) := by decide +kernel
theorem d_w_710 : decode code 710 = .ok (.iaload, 1) := by decide +kernel
theorem d_w_711 : decode code 711 = .ok (.invokestatic 128, 3) := by decide +kernel
theorem d_w_714 : decode code 714 = .ok (.istore 5, 2) := by decide +kernel
theorem d_w_716 : decode code 716 = .ok (.aload_n 2, 1) := by decide +kernel
theorem d_w_717 : decode code 717 = .ok (.aload_n 0, 1) := by decide +kernel
theorem d_w_718 : decode code 718 = .ok (.iload 4, 2) := by decide +kernel
theorem d_w_720 : decode code 720 = .ok (.iconst 1, 1) := by decide +kernel
theorem d_w_721 : decode code 721 = .ok (.iadd, 1) := by decide +kernel
theorem d_w_722 : decode code 722 = .ok (.iaload, 1) := by decide +kernel
theorem d_w_723 : decode code 723 = .ok (.aload_n 0, 1) := by decide +kernel
theorem d_w_724 : decode code 724 = .ok (.iload 4, 2) := by decide +kernel
theorem d_w_726 : decode code 726 = .ok (.iconst 2, 1) := by decide +kernel
theorem d_w_727 : decode code 727 = .ok (.iadd, 1) := by decide +kernel
theorem d_w_728 : decode code 728 = .ok (.iaload, 1) := by decide +kernel
theorem d_w_729 : decode code 729 = .ok (.aload_n 0, 1) := by decide +kernel
theorem d_w_730 : decode code 730 = .ok (.iload 4, 2) := by decide +kernel
theorem d_w_732 : decode code 732 = .ok (.iconst 3, 1) := by decide +kernel
theorem d_w_733 : decode code 733 = .ok (.iadd, 1) := by decide +kernel
theorem d_w_734 : decode code 734 = .ok (.iaload, 1) := by decide +kernel
theorem d_w_735 : decode code 735 = .ok (.invokevirtual 130, 3) := by decide +kernel
theorem d_w_738 : decode code 738 = .ok (.aload_n 2, 1) := by decide +kernel
theorem d_w_739 : decode code 739 = .ok (.invokevirtual 100, 3) := by decide +kernel
theorem d_w_742 : decode code 742 = .ok (.iload 5, 2) := by decide +kernel
theorem d_w_744 : decode code 744 = .ok (.if_icmp .eq 5, 3) := by decide +kernel
theorem d_w_747 : decode code 747 = .ok (.iconst 0, 1) := by decide +kernel
theorem d_w_748 : decode code 748 = .ok (.ireturn, 1) := by decide +kernel
theorem d_w_749 : decode code 749 = .ok (.goto 694, 3) := by decide +kernel
theorem d_w_752 : decode code 752 = .ok (.aload_n 1, 1) := by decide +kernel
theorem d_w_753 : decode code 753 = .ok (.aload_n 0, 1) := by decide +kernel
theorem d_w_754 : decode code 754 = .ok (.iload 4, 2) := by decide +kernel
theorem d_w_756 : decode code 756 = .ok (.iconst 1, 1) := by decide +kernel
theorem d_w_757 : decode code 757 = .ok (.iadd, 1) := by decide +kernel
theorem d_w_758 : decode code 758 = .ok (.iaload, 1) := by decide +kernel
theorem d_w_759 : decode code 759 = .ok (.aload_n 0, 1) := by decide +kernel
theorem d_w_760 : decode code 760 = .ok (.iload 4, 2) := by decide +kernel
theorem d_w_762 : decode code 762 = .ok (.iconst 2, 1) := by decide +kernel
theorem d_w_763 : decode code 763 = .ok (.iadd, 1) := by decide +kernel
theorem d_w_764 : decode code 764 = .ok (.iaload, 1) := by decide +kernel
theorem d_w_765 : decode code 765 = .ok (.aload_n 0, 1) := by decide +kernel
theorem d_w_766 : decode code 766 = .ok (.iload 4, 2) := by decide +kernel
theorem d_w_768 : decode code 768 = .ok (.iconst 3, 1) := by decide +kernel
theorem d_w_769 : decode code 769 = .ok (.iadd, 1) := by decide +kernel
theorem d_w_770 : decode code 770 = .ok (.iaload, 1) := by decide +kernel
theorem d_w_771 : decode code 771 = .ok (.aload_n 0, 1) := by decide +kernel
theorem d_w_772 : decode code 772 = .ok (.iload 4, 2) := by decide +kernel
theorem d_w_774 : decode code 774 = .ok (.iconst 4, 1) := by decide +kernel
theorem d_w_775 : decode code 775 = .ok (.iadd, 1) := by decide +kernel
theorem d_w_776 : decode code 776 = .ok (.iaload, 1) := by decide +kernel
theorem d_w_777 : decode code 777 = .ok (.invokestatic 131, 3) := by decide +kernel
theorem d_w_780 : decode code 780 = .ok (.istore 5, 2) := by decide +kernel
theorem d_w_782 : decode code 782 = .ok (.aload_n 2, 1) := by decide +kernel
theorem d_w_783 : decode code 783 = .ok (.aload_n 0, 1) := by decide +kernel
theorem d_w_784 : decode code 784 = .ok (.iload 4, 2) := by decide +kernel
theorem d_w_786 : decode code 786 = .ok (.iconst 1, 1) := by decide +kernel
theorem d_w_787 : decode code 787 = .ok (.iadd, 1) := by decide +kernel
theorem d_w_788 : decode code 788 = .ok (.iaload, 1) := by decide +kernel
theorem d_w_789 : decode code 789 = .ok (.aload_n 0, 1) := by decide +kernel
theorem d_w_790 : decode code 790 = .ok (.iload 4, 2) := by decide +kernel
theorem d_w_792 : decode code 792 = .ok (.iconst 2, 1) := by decide +kernel
theorem d_w_793 : decode code 793 = .ok (.iadd, 1) := by decide +kernel
theorem d_w_794 : decode code 794 = .ok (.iaload, 1) := by decide +kernel
theorem d_w_795 : decode code 795 = .ok (.aload_n 0, 1) := by decide +kernel
theorem d_w_796 : decode code 796 = .ok (.iload 4, 2) := by decide +kernel
theorem d_w_798 : decode code 798 = .ok (.iconst 3, 1) := by decide +kernel
theorem d_w_799 : decode code 799 = .ok (.iadd, 1) := by decide +kernel
theorem d_w_800 : decode code 800 = .ok (.iaload, 1) := by decide +kernel
theorem d_w_801 : decode code 801 = .ok (.aload_n 0, 1) := by decide +kernel
theorem d_w_802 : decode code 802 = .ok (.iload 4, 2) := by decide +kernel
theorem d_w_804 : decode code 804 = .ok (.iconst 4, 1) := by decide +kernel
theorem d_w_805 : decode code 805 = .ok (.iadd, 1) := by decide +kernel
theorem d_w_806 : decode code 806 = .ok (.iaload, 1) := by decide +kernel
theorem d_w_807 : decode code 807 = .ok (.invokevirtual 134, 3) := by decide +kernel
theorem d_w_810 : decode code 810 = .ok (.aload_n 2, 1) := by decide +kernel
theorem d_w_811 : decode code 811 = .ok (.invokevirtual 100, 3) := by decide +kernel
theorem d_w_814 : decode code 814 = .ok (.iload 5, 2) := by decide +kernel
theorem d_w_816 : decode code 816 = .ok (.if_icmp .eq 5, 3) := by decide +kernel
theorem d_w_819 : decode code 819 = .ok (.iconst 0, 1) := by decide +kernel
theorem d_w_820 : decode code 820 = .ok (.ireturn, 1) := by decide +kernel
theorem d_w_821 : decode code 821 = .ok (.goto 622, 3) := by decide +kernel
theorem d_w_824 : decode code 824 = .ok (.aload_n 1, 1) := by decide +kernel
theorem d_w_825 : decode code 825 = .ok (.aload_n 0, 1) := by decide +kernel
theorem d_w_826 : decode code 826 = .ok (.iload 4, 2) := by decide +kernel
theorem d_w_828 : decode code 828 = .ok (.iconst 1, 1) := by decide +kernel
theorem d_w_829 : decode code 829 = .ok (.iadd, 1) := by decide +kernel
theorem d_w_830 : decode code 830 = .ok (.iaload, 1) := by decide +kernel
theorem d_w_831 : decode code 831 = .ok (.aload_n 0, 1) := by decide +kernel
theorem d_w_832 : decode code 832 = .ok (.iload 4, 2) := by decide +kernel
theorem d_w_834 : decode code 834 = .ok (.iconst 2, 1) := by decide +kernel
theorem d_w_835 : decode code 835 = .ok (.iadd, 1) := by decide +kernel
theorem d_w_836 : decode code 836 = .ok (.iaload, 1) := by decide +kernel
theorem d_w_837 : decode code 837 = .ok (.aload_n 0, 1) := by decide +kernel
theorem d_w_838 : decode code 838 = .ok (.iload 4, 2) := by decide +kernel
theorem d_w_840 : decode code 840 = .ok (.iconst 3, 1) := by decide +kernel
theorem d_w_841 : decode code 841 = .ok (.iadd, 1) := by decide +kernel
theorem d_w_842 : decode code 842 = .ok (.iaload, 1) := by decide +kernel
theorem d_w_843 : decode code 843 = .ok (.invokestatic 135, 3) := by decide +kernel
theorem d_w_846 : decode code 846 = .ok (.istore 5, 2) := by decide +kernel
theorem d_w_848 : decode code 848 = .ok (.aload_n 2, 1) := by decide +kernel
theorem d_w_849 : decode code 849 = .ok (.aload_n 0, 1) := by decide +kernel
theorem d_w_850 : decode code 850 = .ok (.iload 4, 2) := by decide +kernel
theorem d_w_852 : decode code 852 = .ok (.iconst 1, 1) := by decide +kernel
theorem d_w_853 : decode code 853 = .ok (.iadd, 1) := by decide +kernel
theorem d_w_854 : decode code 854 = .ok (.iaload, 1) := by decide +kernel
theorem d_w_855 : decode code 855 = .ok (.aload_n 0, 1) := by decide +kernel
theorem d_w_856 : decode code 856 = .ok (.iload 4, 2) := by decide +kernel
theorem d_w_858 : decode code 858 = .ok (.iconst 2, 1) := by decide +kernel
theorem d_w_859 : decode code 859 = .ok (.iadd, 1) := by decide +kernel
theorem d_w_860 : decode code 860 = .ok (.iaload, 1) := by decide +kernel
theorem d_w_861 : decode code 861 = .ok (.aload_n 0, 1) := by decide +kernel
theorem d_w_862 : decode code 862 = .ok (.iload 4, 2) := by decide +kernel
theorem d_w_864 : decode code 864 = .ok (.iconst 3, 1) := by decide +kernel
theorem d_w_865 : decode code 865 = .ok (.iadd, 1) := by decide +kernel
theorem d_w_866 : decode code 866 = .ok (.iaload, 1) := by decide +kernel
theorem d_w_867 : decode code 867 = .ok (.invokevirtual 137, 3) := by decide +kernel
theorem d_w_870 : decode code 870 = .ok (.aload_n 2, 1) := by decide +kernel
theorem d_w_871 : decode code 871 = .ok (.invokevirtual 100, 3) := by decide +kernel
theorem d_w_874 : decode code 874 = .ok (.iload 5, 2) := by decide +kernel
theorem d_w_876 : decode code 876 = .ok (.if_icmp .eq 5, 3) := by decide +kernel
theorem d_w_879 : decode code 879 = .ok (.iconst 0, 1) := by decide +kernel
theorem d_w_880 : decode code 880 = .ok (.ireturn, 1) := by decide +kernel
theorem d_w_881 : decode code 881 = .ok (.goto 562, 3) := by decide +kernel
theorem d_w_884 : decode code 884 = .ok (.aload_n 1, 1) := by decide +kernel
theorem d_w_885 : decode code 885 = .ok (.aload_n 0, 1) := by decide +kernel
theorem d_w_886 : decode code 886 = .ok (.iload 4, 2) := by decide +kernel
theorem d_w_888 : decode code 888 = .ok (.iconst 1, 1) := by decide +kernel
theorem d_w_889 : decode code 889 = .ok (.iadd, 1) := by decide +kernel
theorem d_w_890 : decode code 890 = .ok (.iaload, 1) := by decide +kernel
theorem d_w_891 : decode code 891 = .ok (.aload_n 0, 1) := by decide +kernel
theorem d_w_892 : decode code 892 = .ok (.iload 4, 2) := by decide +kernel
theorem d_w_894 : decode code 894 = .ok (.iconst 2, 1) := by decide +kernel
theorem d_w_895 : decode code 895 = .ok (.iadd, 1) := by decide +kernel
theorem d_w_896 : decode code 896 = .ok (.iaload, 1) := by decide +kernel
theorem d_w_897 : decode code 897 = .ok (.aload_n 3, 1) := by decide +kernel
theorem d_w_898 : decode code 898 = .ok (.invokestatic 138, 3) := by decide +kernel
theorem d_w_901 : decode code 901 = .ok (.istore 5, 2) := by decide +kernel
theorem d_w_903 : decode code 903 = .ok (.aload_n 2, 1) := by decide +kernel
theorem d_w_904 : decode code 904 = .ok (.aload_n 0, 1) := by decide +kernel
theorem d_w_905 : decode code 905 = .ok (.iload 4, 2) := by decide +kernel
theorem d_w_907 : decode code 907 = .ok (.iconst 1, 1) := by decide +kernel
theorem d_w_908 : decode code 908 = .ok (.iadd, 1) := by decide +kernel
theorem d_w_909 : decode code 909 = .ok (.iaload, 1) := by decide +kernel
theorem d_w_910 : decode code 910 = .ok (.aload_n 0, 1) := by decide +kernel
theorem d_w_911 : decode code 911 = .ok (.iload 4, 2) := by decide +kernel
theorem d_w_913 : decode code 913 = .ok (.iconst 2, 1) := by decide +kernel
theorem d_w_914 : decode code 914 = .ok (.iadd, 1) := by decide +kernel
theorem d_w_915 : decode code 915 = .ok (.iaload, 1) := by decide +kernel
theorem d_w_916 : decode code 916 = .ok (.invokevirtual 141, 3) := by decide +kernel
theorem d_w_919 : decode code 919 = .ok (.istore 6, 2) := by decide +kernel
theorem d_w_921 : decode code 921 = .ok (.aload_n 2, 1) := by decide +kernel
theorem d_w_922 : decode code 922 = .ok (.invokevirtual 100, 3) := by decide +kernel
theorem d_w_925 : decode code 925 = .ok (.iload 5, 2) := by decide +kernel
theorem d_w_927 : decode code 927 = .ok (.if_icmp .eq 5, 3) := by decide +kernel
theorem d_w_930 : decode code 930 = .ok (.iconst 0, 1) := by decide +kernel
theorem d_w_931 : decode code 931 = .ok (.ireturn, 1) := by decide +kernel
theorem d_w_932 : decode code 932 = .ok (.iload 5, 2) := by decide +kernel
theorem d_w_934 : decode code 934 = .ok (.ifCond .ne 15, 3) := by decide +kernel
theorem d_w_937 : decode code 937 = .ok (.aload_n 3, 1) := by decide +kernel
theorem d_w_938 : decode code 938 = .ok (.iconst 0, 1) := by decide +kernel
theorem d_w_939 : decode code 939 = .ok (.laload, 1) := by decide +kernel
theorem d_w_940 : decode code 940 = .ok (.iload 6, 2) := by decide +kernel
theorem d_w_942 : decode code 942 = .ok (.i2l, 1) := by decide +kernel
theorem d_w_943 : decode code 943 = .ok (.lcmp, 1) := by decide +kernel
theorem d_w_944 : decode code 944 = .ok (.ifCond .eq 5, 3) := by decide +kernel
theorem d_w_947 : decode code 947 = .ok (.iconst 0, 1) := by decide +kernel
theorem d_w_948 : decode code 948 = .ok (.ireturn, 1) := by decide +kernel
theorem d_w_949 : decode code 949 = .ok (.goto 494, 3) := by decide +kernel
theorem d_w_952 : decode code 952 = .ok (.aload_n 1, 1) := by decide +kernel
theorem d_w_953 : decode code 953 = .ok (.aload_n 0, 1) := by decide +kernel
theorem d_w_954 : decode code 954 = .ok (.iload 4, 2) := by decide +kernel
theorem d_w_956 : decode code 956 = .ok (.iconst 1, 1) := by decide +kernel
theorem d_w_957 : decode code 957 = .ok (.iadd, 1) := by decide +kernel
theorem d_w_958 : decode code 958 = .ok (.iaload, 1) := by decide +kernel
theorem d_w_959 : decode code 959 = .ok (.aload_n 3, 1) := by decide +kernel
theorem d_w_960 : decode code 960 = .ok (.invokestatic 142, 3) := by decide +kernel
theorem d_w_963 : decode code 963 = .ok (.istore 5, 2) := by decide +kernel
theorem d_w_965 : decode code 965 = .ok (.aload_n 2, 1) := by decide +kernel
theorem d_w_966 : decode code 966 = .ok (.aload_n 0, 1) := by decide +kernel
theorem d_w_967 : decode code 967 = .ok (.iload 4, 2) := by decide +kernel
theorem d_w_969 : decode code 969 = .ok (.iconst 1, 1) := by decide +kernel
theorem d_w_970 : decode code 970 = .ok (.iadd, 1) := by decide +kernel
theorem d_w_971 : decode code 971 = .ok (.iaload, 1) := by decide +kernel
theorem d_w_972 : decode code 972 = .ok (.invokevirtual 145, 3) := by decide +kernel
theorem d_w_975 : decode code 975 = .ok (.istore 6, 2) := by decide +kernel
theorem d_w_977 : decode code 977 = .ok (.aload_n 2, 1) := by decide +kernel
theorem d_w_978 : decode code 978 = .ok (.invokevirtual 100, 3) := by decide +kernel
theorem d_w_981 : decode code 981 = .ok (.iload 5, 2) := by decide +kernel
theorem d_w_983 : decode code 983 = .ok (.if_icmp .eq 5, 3) := by decide +kernel
theorem d_w_986 : decode code 986 = .ok (.iconst 0, 1) := by decide +kernel
theorem d_w_987 : decode code 987 = .ok (.ireturn, 1) := by decide +kernel
theorem d_w_988 : decode code 988 = .ok (.iload 5, 2) := by decide +kernel
theorem d_w_990 : decode code 990 = .ok (.ifCond .ne 15, 3) := by decide +kernel
theorem d_w_993 : decode code 993 = .ok (.aload_n 3, 1) := by decide +kernel
theorem d_w_994 : decode code 994 = .ok (.iconst 0, 1) := by decide +kernel
theorem d_w_995 : decode code 995 = .ok (.laload, 1) := by decide +kernel
theorem d_w_996 : decode code 996 = .ok (.iload 6, 2) := by decide +kernel
theorem d_w_998 : decode code 998 = .ok (.i2l, 1) := by decide +kernel
theorem d_w_999 : decode code 999 = .ok (.lcmp, 1) := by decide +kernel
theorem d_w_1000 : decode code 1000 = .ok (.ifCond .eq 5, 3) := by decide +kernel
theorem d_w_1003 : decode code 1003 = .ok (.iconst 0, 1) := by decide +kernel
theorem d_w_1004 : decode code 1004 = .ok (.ireturn, 1) := by decide +kernel
theorem d_w_1005 : decode code 1005 = .ok (.goto 438, 3) := by decide +kernel
theorem d_w_1008 : decode code 1008 = .ok (.aload_n 1, 1) := by decide +kernel
theorem d_w_1009 : decode code 1009 = .ok (.aload_n 0, 1) := by decide +kernel
theorem d_w_1010 : decode code 1010 = .ok (.iload 4, 2) := by decide +kernel
theorem d_w_1012 : decode code 1012 = .ok (.iconst 1, 1) := by decide +kernel
theorem d_w_1013 : decode code 1013 = .ok (.iadd, 1) := by decide +kernel
theorem d_w_1014 : decode code 1014 = .ok (.iaload, 1) := by decide +kernel
theorem d_w_1015 : decode code 1015 = .ok (.aload_n 0, 1) := by decide +kernel
theorem d_w_1016 : decode code 1016 = .ok (.iload 4, 2) := by decide +kernel
theorem d_w_1018 : decode code 1018 = .ok (.iconst 2, 1) := by decide +kernel
theorem d_w_1019 : decode code 1019 = .ok (.iadd, 1) := by decide +kernel
theorem d_w_1020 : decode code 1020 = .ok (.iaload, 1) := by decide +kernel
theorem d_w_1021 : decode code 1021 = .ok (.aload_n 3, 1) := by decide +kernel
theorem d_w_1022 : decode code 1022 = .ok (.invokestatic 146, 3) := by decide +kernel
theorem d_w_1025 : decode code 1025 = .ok (.istore 5, 2) := by decide +kernel
theorem d_w_1027 : decode code 1027 = .ok (.aload_n 2, 1) := by decide +kernel
theorem d_w_1028 : decode code 1028 = .ok (.aload_n 0, 1) := by decide +kernel
theorem d_w_1029 : decode code 1029 = .ok (.iload 4, 2) := by decide +kernel
theorem d_w_1031 : decode code 1031 = .ok (.iconst 1, 1) := by decide +kernel
theorem d_w_1032 : decode code 1032 = .ok (.iadd, 1) := by decide +kernel
theorem d_w_1033 : decode code 1033 = .ok (.iaload, 1) := by decide +kernel
theorem d_w_1034 : decode code 1034 = .ok (.aload_n 0, 1) := by decide +kernel
theorem d_w_1035 : decode code 1035 = .ok (.iload 4, 2) := by decide +kernel
theorem d_w_1037 : decode code 1037 = .ok (.iconst 2, 1) := by decide +kernel
theorem d_w_1038 : decode code 1038 = .ok (.iadd, 1) := by decide +kernel
theorem d_w_1039 : decode code 1039 = .ok (.iaload, 1) := by decide +kernel
theorem d_w_1040 : decode code 1040 = .ok (.invokevirtual 148, 3) := by decide +kernel
theorem d_w_1043 : decode code 1043 = .ok (.istore 6, 2) := by decide +kernel
theorem d_w_1045 : decode code 1045 = .ok (.aload_n 2, 1) := by decide +kernel
theorem d_w_1046 : decode code 1046 = .ok (.invokevirtual 100, 3) := by decide +kernel
theorem d_w_1049 : decode code 1049 = .ok (.iload 5, 2) := by decide +kernel
theorem d_w_1051 : decode code 1051 = .ok (.if_icmp .eq 5, 3) := by decide +kernel
theorem d_w_1054 : decode code 1054 = .ok (.iconst 0, 1) := by decide +kernel
theorem d_w_1055 : decode code 1055 = .ok (.ireturn, 1) := by decide +kernel
theorem d_w_1056 : decode code 1056 = .ok (.iload 5, 2) := by decide +kernel
theorem d_w_1058 : decode code 1058 = .ok (.ifCond .ne 22, 3) := by decide +kernel
theorem d_w_1061 : decode code 1061 = .ok (.aload_n 3, 1) := by decide +kernel
theorem d_w_1062 : decode code 1062 = .ok (.iconst 0, 1) := by decide +kernel
theorem d_w_1063 : decode code 1063 = .ok (.laload, 1) := by decide +kernel
theorem d_w_1064 : decode code 1064 = .ok (.iload 6, 2) := by decide +kernel
theorem d_w_1066 : decode code 1066 = .ok (.ifCond .eq 7, 3) := by decide +kernel
theorem d_w_1069 : decode code 1069 = .ok (.lconst 1, 1) := by decide +kernel
theorem d_w_1070 : decode code 1070 = .ok (.goto 4, 3) := by decide +kernel
theorem d_w_1073 : decode code 1073 = .ok (.lconst 0, 1) := by decide +kernel
theorem d_w_1074 : decode code 1074 = .ok (.lcmp, 1) := by decide +kernel
theorem d_w_1075 : decode code 1075 = .ok (.ifCond .eq 5, 3) := by decide +kernel
theorem d_w_1078 : decode code 1078 = .ok (.iconst 0, 1) := by decide +kernel
theorem d_w_1079 : decode code 1079 = .ok (.ireturn, 1) := by decide +kernel
theorem d_w_1080 : decode code 1080 = .ok (.goto 363, 3) := by decide +kernel
theorem d_w_1083 : decode code 1083 = .ok (.aload_n 1, 1) := by decide +kernel
theorem d_w_1084 : decode code 1084 = .ok (.aload_n 0, 1) := by decide +kernel
theorem d_w_1085 : decode code 1085 = .ok (.iload 4, 2) := by decide +kernel
theorem d_w_1087 : decode code 1087 = .ok (.iconst 1, 1) := by decide +kernel
theorem d_w_1088 : decode code 1088 = .ok (.iadd, 1) := by decide +kernel
theorem d_w_1089 : decode code 1089 = .ok (.iaload, 1) := by decide +kernel
theorem d_w_1090 : decode code 1090 = .ok (.aload_n 3, 1) := by decide +kernel
theorem d_w_1091 : decode code 1091 = .ok (.invokestatic 149, 3) := by decide +kernel
theorem d_w_1094 : decode code 1094 = .ok (.istore 5, 2) := by decide +kernel
theorem d_w_1096 : decode code 1096 = .ok (.aload_n 2, 1) := by decide +kernel
theorem d_w_1097 : decode code 1097 = .ok (.aload_n 0, 1) := by decide +kernel
theorem d_w_1098 : decode code 1098 = .ok (.iload 4, 2) := by decide +kernel
theorem d_w_1100 : decode code 1100 = .ok (.iconst 1, 1) := by decide +kernel
theorem d_w_1101 : decode code 1101 = .ok (.iadd, 1) := by decide +kernel
theorem d_w_1102 : decode code 1102 = .ok (.iaload, 1) := by decide +kernel
theorem d_w_1103 : decode code 1103 = .ok (.invokevirtual 151, 3) := by decide +kernel
theorem d_w_1106 : decode code 1106 = .ok (.lstore 6, 2) := by decide +kernel
theorem d_w_1108 : decode code 1108 = .ok (.aload_n 2, 1) := by decide +kernel
theorem d_w_1109 : decode code 1109 = .ok (.invokevirtual 100, 3) := by decide +kernel
theorem d_w_1112 : decode code 1112 = .ok (.iload 5, 2) := by decide +kernel
theorem d_w_1114 : decode code 1114 = .ok (.if_icmp .eq 5, 3) := by decide +kernel
theorem d_w_1117 : decode code 1117 = .ok (.iconst 0, 1) := by decide +kernel
theorem d_w_1118 : decode code 1118 = .ok (.ireturn, 1) := by decide +kernel
theorem d_w_1119 : decode code 1119 = .ok (.iload 5, 2) := by decide +kernel
theorem d_w_1121 : decode code 1121 = .ok (.ifCond .ne 14, 3) := by decide +kernel
theorem d_w_1124 : decode code 1124 = .ok (.aload_n 3, 1) := by decide +kernel
theorem d_w_1125 : decode code 1125 = .ok (.iconst 0, 1) := by decide +kernel
theorem d_w_1126 : decode code 1126 = .ok (.laload, 1) := by decide +kernel
theorem d_w_1127 : decode code 1127 = .ok (.lload 6, 2) := by decide +kernel
theorem d_w_1129 : decode code 1129 = .ok (.lcmp, 1) := by decide +kernel
theorem d_w_1130 : decode code 1130 = .ok (.ifCond .eq 5, 3) := by decide +kernel
theorem d_w_1133 : decode code 1133 = .ok (.iconst 0, 1) := by decide +kernel
theorem d_w_1134 : decode code 1134 = .ok (.ireturn, 1) := by decide +kernel
theorem d_w_1135 : decode code 1135 = .ok (.goto 308, 3) := by decide +kernel
theorem d_w_1138 : decode code 1138 = .ok (.aload_n 1, 1) := by decide +kernel
theorem d_w_1139 : decode code 1139 = .ok (.aload_n 0, 1) := by decide +kernel
theorem d_w_1140 : decode code 1140 = .ok (.iload 4, 2) := by decide +kernel
theorem d_w_1142 : decode code 1142 = .ok (.iconst 1, 1) := by decide +kernel
theorem d_w_1143 : decode code 1143 = .ok (.iadd, 1) := by decide +kernel
theorem d_w_1144 : decode code 1144 = .ok (.iaload, 1) := by decide +kernel
theorem d_w_1145 : decode code 1145 = .ok (.i2l, 1) := by decide +kernel
theorem d_w_1146 : decode code 1146 = .ok (.bipush 32, 2) := by decide +kernel
theorem d_w_1148 : decode code 1148 = .ok (.lshl, 1) := by decide +kernel
theorem d_w_1149 : decode code 1149 = .ok (.aload_n 0, 1) := by decide +kernel
theorem d_w_1150 : decode code 1150 = .ok (.iload 4, 2) := by decide +kernel
theorem d_w_1152 : decode code 1152 = .ok (.iconst 2, 1) := by decide +kernel
theorem d_w_1153 : decode code 1153 = .ok (.iadd, 1) := by decide +kernel
theorem d_w_1154 : decode code 1154 = .ok (.iaload, 1) := by decide +kernel
theorem d_w_1155 : decode code 1155 = .ok (.i2l, 1) := by decide +kernel
theorem d_w_1156 : decode code 1156 = .ok (.ldc2_w 92, 3) := by decide +kernel
theorem d_w_1159 : decode code 1159 = .ok (.land, 1) := by decide +kernel
theorem d_w_1160 : decode code 1160 = .ok (.lor, 1) := by decide +kernel
theorem d_w_1161 : decode code 1161 = .ok (.aload_n 0, 1) := by decide +kernel
theorem d_w_1162 : decode code 1162 = .ok (.iload 4, 2) := by decide +kernel
theorem d_w_1164 : decode code 1164 = .ok (.iconst 3, 1) := by decide +kernel
theorem d_w_1165 : decode code 1165 = .ok (.iadd, 1) := by decide +kernel
theorem d_w_1166 : decode code 1166 = .ok (.iaload, 1) := by decide +kernel
theorem d_w_1167 : decode code 1167 = .ok (.aload_n 3, 1) := by decide +kernel
theorem d_w_1168 : decode code 1168 = .ok (.invokestatic 152, 3) := by decide +kernel
theorem d_w_1171 : decode code 1171 = .ok (.istore 5, 2) := by decide +kernel
theorem d_w_1173 : decode code 1173 = .ok (.aload_n 2, 1) := by decide +kernel
theorem d_w_1174 : decode code 1174 = .ok (.aload_n 0, 1) := by decide +kernel
theorem d_w_1175 : decode code 1175 = .ok (.iload 4, 2) := by decide +kernel
theorem d_w_1177 : decode code 1177 = .ok (.iconst 1, 1) := by decide +kernel
theorem d_w_1178 : decode code 1178 = .ok (.iadd, 1) := by decide +kernel
theorem d_w_1179 : decode code 1179 = .ok (.iaload, 1) := by decide +kernel
theorem d_w_1180 : decode code 1180 = .ok (.i2l, 1) := by decide +kernel
theorem d_w_1181 : decode code 1181 = .ok (.bipush 32, 2) := by decide +kernel
theorem d_w_1183 : decode code 1183 = .ok (.lshl, 1) := by decide +kernel
theorem d_w_1184 : decode code 1184 = .ok (.aload_n 0, 1) := by decide +kernel
theorem d_w_1185 : decode code 1185 = .ok (.iload 4, 2) := by decide +kernel
theorem d_w_1187 : decode code 1187 = .ok (.iconst 2, 1) := by decide +kernel
theorem d_w_1188 : decode code 1188 = .ok (.iadd, 1) := by decide +kernel
theorem d_w_1189 : decode code 1189 = .ok (.iaload, 1) := by decide +kernel
theorem d_w_1190 : decode code 1190 = .ok (.i2l, 1) := by decide +kernel
theorem d_w_1191 : decode code 1191 = .ok (.ldc2_w 92, 3) := by decide +kernel
theorem d_w_1194 : decode code 1194 = .ok (.land, 1) := by decide +kernel
theorem d_w_1195 : decode code 1195 = .ok (.lor, 1) := by decide +kernel
theorem d_w_1196 : decode code 1196 = .ok (.aload_n 0, 1) := by decide +kernel
theorem d_w_1197 : decode code 1197 = .ok (.iload 4, 2) := by decide +kernel
theorem d_w_1199 : decode code 1199 = .ok (.iconst 3, 1) := by decide +kernel
theorem d_w_1200 : decode code 1200 = .ok (.iadd, 1) := by decide +kernel
theorem d_w_1201 : decode code 1201 = .ok (.iaload, 1) := by decide +kernel
theorem d_w_1202 : decode code 1202 = .ok (.invokevirtual 155, 3) := by decide +kernel
theorem d_w_1205 : decode code 1205 = .ok (.istore 6, 2) := by decide +kernel
theorem d_w_1207 : decode code 1207 = .ok (.aload_n 2, 1) := by decide +kernel
theorem d_w_1208 : decode code 1208 = .ok (.invokevirtual 100, 3) := by decide +kernel
theorem d_w_1211 : decode code 1211 = .ok (.iload 5, 2) := by decide +kernel
theorem d_w_1213 : decode code 1213 = .ok (.if_icmp .eq 5, 3) := by decide +kernel
theorem d_w_1216 : decode code 1216 = .ok (.iconst 0, 1) := by decide +kernel
theorem d_w_1217 : decode code 1217 = .ok (.ireturn, 1) := by decide +kernel
theorem d_w_1218 : decode code 1218 = .ok (.iload 5, 2) := by decide +kernel
theorem d_w_1220 : decode code 1220 = .ok (.ifCond .ne 15, 3) := by decide +kernel
theorem d_w_1223 : decode code 1223 = .ok (.aload_n 3, 1) := by decide +kernel
theorem d_w_1224 : decode code 1224 = .ok (.iconst 0, 1) := by decide +kernel
theorem d_w_1225 : decode code 1225 = .ok (.laload, 1) := by decide +kernel
theorem d_w_1226 : decode code 1226 = .ok (.iload 6, 2) := by decide +kernel
theorem d_w_1228 : decode code 1228 = .ok (.i2l, 1) := by decide +kernel
theorem d_w_1229 : decode code 1229 = .ok (.lcmp, 1) := by decide +kernel
theorem d_w_1230 : decode code 1230 = .ok (.ifCond .eq 5, 3) := by decide +kernel
theorem d_w_1233 : decode code 1233 = .ok (.iconst 0, 1) := by decide +kernel
theorem d_w_1234 : decode code 1234 = .ok (.ireturn, 1) := by decide +kernel
theorem d_w_1235 : decode code 1235 = .ok (.goto 208, 3) := by decide +kernel
theorem d_w_1238 : decode code 1238 = .ok (.aload_n 1, 1) := by decide +kernel
theorem d_w_1239 : decode code 1239 = .ok (.invokevirtual 156, 3) := by decide +kernel
theorem d_w_1242 : decode code 1242 = .ok (.aload_n 2, 1) := by decide +kernel
theorem d_w_1243 : decode code 1243 = .ok (.invokevirtual 159, 3) := by decide +kernel
theorem d_w_1246 : decode code 1246 = .ok (.if_icmp .eq 197, 3) := by decide +kernel
theorem d_w_1249 : decode code 1249 = .ok (.iconst 0, 1) := by decide +kernel
theorem d_w_1250 : decode code 1250 = .ok (.ireturn, 1) := by decide +kernel
theorem d_w_1251 : decode code 1251 = .ok (.aload_n 1, 1) := by decide +kernel
theorem d_w_1252 : decode code 1252 = .ok (.aload_n 0, 1) := by decide +kernel
theorem d_w_1253 : decode code 1253 = .ok (.iload 4, 2) := by decide +kernel
theorem d_w_1255 : decode code 1255 = .ok (.iconst 1, 1) := by decide +kernel
theorem d_w_1256 : decode code 1256 = .ok (.iadd, 1) := by decide +kernel
theorem d_w_1257 : decode code 1257 = .ok (.iaload, 1) := by decide +kernel
theorem d_w_1258 : decode code 1258 = .ok (.aload_n 0, 1) := by decide +kernel
theorem d_w_1259 : decode code 1259 = .ok (.iload 4, 2) := by decide +kernel
theorem d_w_1261 : decode code 1261 = .ok (.iconst 2, 1) := by decide +kernel
theorem d_w_1262 : decode code 1262 = .ok (.iadd, 1) := by decide +kernel
theorem d_w_1263 : decode code 1263 = .ok (.iaload, 1) := by decide +kernel
theorem d_w_1264 : decode code 1264 = .ok (.aload_n 3, 1) := by decide +kernel
theorem d_w_1265 : decode code 1265 = .ok (.invokestatic 160, 3) := by decide +kernel
theorem d_w_1268 : decode code 1268 = .ok (.istore 5, 2) := by decide +kernel
theorem d_w_1270 : decode code 1270 = .ok (.aload_n 2, 1) := by decide +kernel
theorem d_w_1271 : decode code 1271 = .ok (.aload_n 0, 1) := by decide +kernel
theorem d_w_1272 : decode code 1272 = .ok (.iload 4, 2) := by decide +kernel
theorem d_w_1274 : decode code 1274 = .ok (.iconst 1, 1) := by decide +kernel
theorem d_w_1275 : decode code 1275 = .ok (.iadd, 1) := by decide +kernel
theorem d_w_1276 : decode code 1276 = .ok (.iaload, 1) := by decide +kernel
theorem d_w_1277 : decode code 1277 = .ok (.aload_n 0, 1) := by decide +kernel
theorem d_w_1278 : decode code 1278 = .ok (.iload 4, 2) := by decide +kernel
theorem d_w_1280 : decode code 1280 = .ok (.iconst 2, 1) := by decide +kernel
theorem d_w_1281 : decode code 1281 = .ok (.iadd, 1) := by decide +kernel
theorem d_w_1282 : decode code 1282 = .ok (.iaload, 1) := by decide +kernel
theorem d_w_1283 : decode code 1283 = .ok (.invokevirtual 162, 3) := by decide +kernel
theorem d_w_1286 : decode code 1286 = .ok (.istore 6, 2) := by decide +kernel
theorem d_w_1288 : decode code 1288 = .ok (.aload_n 2, 1) := by decide +kernel
theorem d_w_1289 : decode code 1289 = .ok (.invokevirtual 100, 3) := by decide +kernel
theorem d_w_1292 : decode code 1292 = .ok (.iload 5, 2) := by decide +kernel
theorem d_w_1294 : decode code 1294 = .ok (.if_icmp .eq 5, 3) := by decide +kernel
theorem d_w_1297 : decode code 1297 = .ok (.iconst 0, 1) := by decide +kernel
theorem d_w_1298 : decode code 1298 = .ok (.ireturn, 1) := by decide +kernel
theorem d_w_1299 : decode code 1299 = .ok (.iload 5, 2) := by decide +kernel
theorem d_w_1301 : decode code 1301 = .ok (.ifCond .ne 15, 3) := by decide +kernel
theorem d_w_1304 : decode code 1304 = .ok (.aload_n 3, 1) := by decide +kernel
theorem d_w_1305 : decode code 1305 = .ok (.iconst 0, 1) := by decide +kernel
theorem d_w_1306 : decode code 1306 = .ok (.laload, 1) := by decide +kernel
theorem d_w_1307 : decode code 1307 = .ok (.iload 6, 2) := by decide +kernel
theorem d_w_1309 : decode code 1309 = .ok (.i2l, 1) := by decide +kernel
theorem d_w_1310 : decode code 1310 = .ok (.lcmp, 1) := by decide +kernel
theorem d_w_1311 : decode code 1311 = .ok (.ifCond .eq 5, 3) := by decide +kernel
theorem d_w_1314 : decode code 1314 = .ok (.iconst 0, 1) := by decide +kernel
theorem d_w_1315 : decode code 1315 = .ok (.ireturn, 1) := by decide +kernel
theorem d_w_1316 : decode code 1316 = .ok (.goto 127, 3) := by decide +kernel
theorem d_w_1319 : decode code 1319 = .ok (.aload_n 1, 1) := by decide +kernel
theorem d_w_1320 : decode code 1320 = .ok (.aload_n 0, 1) := by decide +kernel
theorem d_w_1321 : decode code 1321 = .ok (.iload 4, 2) := by decide +kernel
theorem d_w_1323 : decode code 1323 = .ok (.iconst 1, 1) := by decide +kernel
theorem d_w_1324 : decode code 1324 = .ok (.iadd, 1) := by decide +kernel
theorem d_w_1325 : decode code 1325 = .ok (.iaload, 1) := by decide +kernel
theorem d_w_1326 : decode code 1326 = .ok (.aload_n 0, 1) := by decide +kernel
theorem d_w_1327 : decode code 1327 = .ok (.iload 4, 2) := by decide +kernel
theorem d_w_1329 : decode code 1329 = .ok (.iconst 2, 1) := by decide +kernel
theorem d_w_1330 : decode code 1330 = .ok (.iadd, 1) := by decide +kernel
theorem d_w_1331 : decode code 1331 = .ok (.iaload, 1) := by decide +kernel
theorem d_w_1332 : decode code 1332 = .ok (.aload_n 3, 1) := by decide +kernel
theorem d_w_1333 : decode code 1333 = .ok (.invokestatic 163, 3) := by decide +kernel
theorem d_w_1336 : decode code 1336 = .ok (.istore 5, 2) := by decide +kernel
theorem d_w_1338 : decode code 1338 = .ok (.aload_n 2, 1) := by decide +kernel
theorem d_w_1339 : decode code 1339 = .ok (.aload_n 0, 1) := by decide +kernel
theorem d_w_1340 : decode code 1340 = .ok (.iload 4, 2) := by decide +kernel
theorem d_w_1342 : decode code 1342 = .ok (.iconst 1, 1) := by decide +kernel
theorem d_w_1343 : decode code 1343 = .ok (.iadd, 1) := by decide +kernel
theorem d_w_1344 : decode code 1344 = .ok (.iaload, 1) := by decide +kernel
theorem d_w_1345 : decode code 1345 = .ok (.aload_n 0, 1) := by decide +kernel
theorem d_w_1346 : decode code 1346 = .ok (.iload 4, 2) := by decide +kernel
theorem d_w_1348 : decode code 1348 = .ok (.iconst 2, 1) := by decide +kernel
theorem d_w_1349 : decode code 1349 = .ok (.iadd, 1) := by decide +kernel
theorem d_w_1350 : decode code 1350 = .ok (.iaload, 1) := by decide +kernel
theorem d_w_1351 : decode code 1351 = .ok (.invokevirtual 165, 3) := by decide +kernel
theorem d_w_1354 : decode code 1354 = .ok (.istore 6, 2) := by decide +kernel
theorem d_w_1356 : decode code 1356 = .ok (.aload_n 2, 1) := by decide +kernel
theorem d_w_1357 : decode code 1357 = .ok (.invokevirtual 100, 3) := by decide +kernel
theorem d_w_1360 : decode code 1360 = .ok (.iload 5, 2) := by decide +kernel
theorem d_w_1362 : decode code 1362 = .ok (.if_icmp .eq 5, 3) := by decide +kernel
theorem d_w_1365 : decode code 1365 = .ok (.iconst 0, 1) := by decide +kernel
theorem d_w_1366 : decode code 1366 = .ok (.ireturn, 1) := by decide +kernel
theorem d_w_1367 : decode code 1367 = .ok (.iload 5, 2) := by decide +kernel
theorem d_w_1369 : decode code 1369 = .ok (.ifCond .ne 15, 3) := by decide +kernel
theorem d_w_1372 : decode code 1372 = .ok (.aload_n 3, 1) := by decide +kernel
theorem d_w_1373 : decode code 1373 = .ok (.iconst 0, 1) := by decide +kernel
theorem d_w_1374 : decode code 1374 = .ok (.laload, 1) := by decide +kernel
theorem d_w_1375 : decode code 1375 = .ok (.iload 6, 2) := by decide +kernel
theorem d_w_1377 : decode code 1377 = .ok (.i2l, 1) := by decide +kernel
theorem d_w_1378 : decode code 1378 = .ok (.lcmp, 1) := by decide +kernel
theorem d_w_1379 : decode code 1379 = .ok (.ifCond .eq 5, 3) := by decide +kernel
theorem d_w_1382 : decode code 1382 = .ok (.iconst 0, 1) := by decide +kernel
theorem d_w_1383 : decode code 1383 = .ok (.ireturn, 1) := by decide +kernel
theorem d_w_1384 : decode code 1384 = .ok (.goto 59, 3) := by decide +kernel
theorem d_w_1387 : decode code 1387 = .ok (.aload_n 1, 1) := by decide +kernel
theorem d_w_1388 : decode code 1388 = .ok (.aload_n 0, 1) := by decide +kernel
theorem d_w_1389 : decode code 1389 = .ok (.iload 4, 2) := by decide +kernel
theorem d_w_1391 : decode code 1391 = .ok (.iconst 1, 1) := by decide +kernel
theorem d_w_1392 : decode code 1392 = .ok (.iadd, 1) := by decide +kernel
theorem d_w_1393 : decode code 1393 = .ok (.iaload, 1) := by decide +kernel
theorem d_w_1394 : decode code 1394 = .ok (.aload_n 3, 1) := by decide +kernel
theorem d_w_1395 : decode code 1395 = .ok (.invokestatic 166, 3) := by decide +kernel
theorem d_w_1398 : decode code 1398 = .ok (.istore 5, 2) := by decide +kernel
theorem d_w_1400 : decode code 1400 = .ok (.aload_n 2, 1) := by decide +kernel
theorem d_w_1401 : decode code 1401 = .ok (.aload_n 0, 1) := by decide +kernel
theorem d_w_1402 : decode code 1402 = .ok (.iload 4, 2) := by decide +kernel
theorem d_w_1404 : decode code 1404 = .ok (.iconst 1, 1) := by decide +kernel
theorem d_w_1405 : decode code 1405 = .ok (.iadd, 1) := by decide +kernel
theorem d_w_1406 : decode code 1406 = .ok (.iaload, 1) := by decide +kernel
theorem d_w_1407 : decode code 1407 = .ok (.invokevirtual 168, 3) := by decide +kernel
theorem d_w_1410 : decode code 1410 = .ok (.istore 6, 2) := by decide +kernel
theorem d_w_1412 : decode code 1412 = .ok (.aload_n 2, 1) := by decide +kernel
theorem d_w_1413 : decode code 1413 = .ok (.invokevirtual 100, 3) := by decide +kernel
theorem d_w_1416 : decode code 1416 = .ok (.iload 5, 2) := by decide +kernel
theorem d_w_1418 : decode code 1418 = .ok (.if_icmp .eq 5, 3) := by decide +kernel
theorem d_w_1421 : decode code 1421 = .ok (.iconst 0, 1) := by decide +kernel
theorem d_w_1422 : decode code 1422 = .ok (.ireturn, 1) := by decide +kernel
theorem d_w_1423 : decode code 1423 = .ok (.iload 5, 2) := by decide +kernel
theorem d_w_1425 : decode code 1425 = .ok (.ifCond .ne 15, 3) := by decide +kernel
theorem d_w_1428 : decode code 1428 = .ok (.aload_n 3, 1) := by decide +kernel
theorem d_w_1429 : decode code 1429 = .ok (.iconst 0, 1) := by decide +kernel
theorem d_w_1430 : decode code 1430 = .ok (.laload, 1) := by decide +kernel
theorem d_w_1431 : decode code 1431 = .ok (.iload 6, 2) := by decide +kernel
theorem d_w_1433 : decode code 1433 = .ok (.i2l, 1) := by decide +kernel
theorem d_w_1434 : decode code 1434 = .ok (.lcmp, 1) := by decide +kernel
theorem d_w_1435 : decode code 1435 = .ok (.ifCond .eq 5, 3) := by decide +kernel
theorem d_w_1438 : decode code 1438 = .ok (.iconst 0, 1) := by decide +kernel
theorem d_w_1439 : decode code 1439 = .ok (.ireturn, 1) := by decide +kernel
theorem d_w_1440 : decode code 1440 = .ok (.goto 3, 3) := by decide +kernel
theorem d_w_1443 : decode code 1443 = .ok (.iinc 4 6, 3) := by decide +kernel
theorem d_w_1446 : decode code 1446 = .ok (.goto (-1423), 3) := by decide +kernel
theorem d_w_1449 : decode code 1449 = .ok (.iconst 1, 1) := by decide +kernel
theorem d_w_1450 : decode code 1450 = .ok (.ireturn, 1) := by decide +kernel
