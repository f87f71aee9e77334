theorem dL_0 : decode code 0 = .ok (.new 8, 3) := by decide +kernel
theorem dL_3 : decode code 3 = .ok (.dup, 1) := by decide +kernel
theorem dL_4 : decode code 4 = .ok (.aload_n 0, 1) := by decide +kernel
theorem dL_5 : decode code 5 = .ok (.iconst 0, 1) := by decide +kernel
theorem dL_6 : decode code 6 = .ok (.invokestatic 93, 3) := by decide +kernel
theorem dL_9 : decode code 9 = .ok (.invokespecial 99, 3) := by decide +kernel
theorem dL_12 : decode code 12 = .ok (.astore_n 1, 1) := by decide +kernel
theorem dL_13 : decode code 13 = .ok (.new 102, 3) := by decide +kernel
theorem dL_16 : decode code 16 = .ok (.dup, 1) := by decide +kernel
theorem dL_17 : decode code 17 = .ok (.aload_n 0, 1) := by decide +kernel
theorem dL_18 : decode code 18 = .ok (.iconst 0, 1) := by decide +kernel
theorem dL_19 : decode code 19 = .ok (.invokestatic 93, 3) := by decide +kernel
theorem dL_22 : decode code 22 = .ok (.invokespecial 104, 3) := by decide +kernel
theorem dL_25 : decode code 25 = .ok (.astore_n 2, 1) := by decide +kernel
theorem dL_26 : decode code 26 = .ok (.iconst 1, 1) := by decide +kernel
theorem dL_27 : decode code 27 = .ok (.newarray .long, 2) := by decide +kernel
theorem dL_29 : decode code 29 = .ok (.astore_n 3, 1) := by decide +kernel
theorem dL_30 : decode code 30 = .ok (.iconst 1, 1) := by decide +kernel
theorem dL_31 : decode code 31 = .ok (.istore 4, 2) := by decide +kernel
theorem dL_33 : decode code 33 = .ok (.iload 4, 2) := by decide +kernel
theorem dL_35 : decode code 35 = .ok (.aload_n 0, 1) := by decide +kernel
theorem dL_36 : decode code 36 = .ok (.arraylength, 1) := by decide +kernel
theorem dL_37 : decode code 37 = .ok (.iconst 4, 1) := by decide +kernel
theorem dL_38 : decode code 38 = .ok (.isub, 1) := by decide +kernel
theorem dL_39 : decode code 39 = .ok (.if_icmp .gt 1579, 3) := by decide +kernel
theorem dL_42 : decode code 42 = .ok (.aload_n 0, 1) := by decide +kernel
theorem dL_43 : decode code 43 = .ok (.iload 4, 2) := by decide +kernel
theorem dL_45 : decode code 45 = .ok (.iaload, 1) := by decide +kernel
theorem dL_46 : decode code 46 = .ok (.bipush 31, 2) := by decide +kernel
theorem dL_48 : decode code 48 = .ok (.iand, 1) := by decide +kernel
theorem dL_49 : decode code 49 = .ok (.tableswitch 1563 0 22 #[107, 175, 275, 331, 375, 431, 531, 587, 635, 703, 759, 814, 882, 949, 1017, 1085, 1141, 1197, 1260, 1316, 1372, 1440, 1507], 107) := by decide +kernel
theorem dL_156 : decode code 156 = .ok (.aload_n 1, 1) := by decide +kernel
theorem dL_157 : decode code 157 = .ok (.aload_n 0, 1) := by decide +kernel
theorem dL_158 : decode code 158 = .ok (.iload 4, 2) := by decide +kernel
theorem dL_160 : decode code 160 = .ok (.iconst 1, 1) := by decide +kernel
theorem dL_161 : decode code 161 = .ok (.iadd, 1) := by decide +kernel
theorem dL_162 : decode code 162 = .ok (.iaload, 1) := by decide +kernel
theorem dL_163 : decode code 163 = .ok (.aload_n 0, 1) := by decide +kernel
theorem dL_164 : decode code 164 = .ok (.iload 4, 2) := by decide +kernel
theorem dL_166 : decode code 166 = .ok (.iconst 2, 1) := by decide +kernel
theorem dL_167 : decode code 167 = .ok (.iadd, 1) := by decide +kernel
theorem dL_168 : decode code 168 = .ok (.iaload, 1) := by decide +kernel
theorem dL_169 : decode code 169 = .ok (.aload_n 3, 1) := by decide +kernel
theorem dL_170 : decode code 170 = .ok (.invokestatic 105, 3) := by decide +kernel
theorem dL_173 : decode code 173 = .ok (.istore 5, 2) := by decide +kernel
theorem dL_175 : decode code 175 = .ok (.aload_n 2, 1) := by decide +kernel
theorem dL_176 : decode code 176 = .ok (.aload_n 0, 1) := by decide +kernel
theorem dL_177 : decode code 177 = .ok (.iload 4, 2) := by decide +kernel
theorem dL_179 : decode code 179 = .ok (.iconst 1, 1) := by decide +kernel
theorem dL_180 : decode code 180 = .ok (.iadd, 1) := by decide +kernel
theorem dL_181 : decode code 181 = .ok (.iaload, 1) := by decide +kernel
theorem dL_182 : decode code 182 = .ok (.aload_n 0, 1) := by decide +kernel
theorem dL_183 : decode code 183 = .ok (.iload 4, 2) := by decide +kernel
theorem dL_185 : decode code 185 = .ok (.iconst 2, 1) := by decide +kernel
theorem dL_186 : decode code 186 = .ok (.iadd, 1) := by decide +kernel
theorem dL_187 : decode code 187 = .ok (.iaload, 1) := by decide +kernel
theorem dL_188 : decode code 188 = .ok (.invokevirtual 108, 3) := by decide +kernel
theorem dL_191 : decode code 191 = .ok (.istore 6, 2) := by decide +kernel
theorem dL_193 : decode code 193 = .ok (.aload_n 2, 1) := by decide +kernel
theorem dL_194 : decode code 194 = .ok (.invokevirtual 109, 3) := by decide +kernel
theorem dL_197 : decode code 197 = .ok (.iload 5, 2) := by decide +kernel
theorem dL_199 : decode code 199 = .ok (.if_icmp .eq 5, 3) := by decide +kernel
theorem dL_204 : decode code 204 = .ok (.iload 5, 2) := by decide +kernel
theorem dL_206 : decode code 206 = .ok (.ifCond .ne 15, 3) := by decide +kernel
theorem dL_209 : decode code 209 = .ok (.aload_n 3, 1) := by decide +kernel
theorem dL_210 : decode code 210 = .ok (.iconst 0, 1) := by decide +kernel
theorem dL_211 : decode code 211 = .ok (.laload, 1) := by decide +kernel
theorem dL_212 : decode code 212 = .ok (.iload 6, 2) := by decide +kernel
theorem dL_214 : decode code 214 = .ok (.i2l, 1) := by decide +kernel
theorem dL_215 : decode code 215 = .ok (.lcmp, 1) := by decide +kernel
theorem dL_216 : decode code 216 = .ok (.ifCond .eq 5, 3) := by decide +kernel
theorem dL_221 : decode code 221 = .ok (.goto 1391, 3) := by decide +kernel
theorem dL_224 : decode code 224 = .ok (.aload_n 1, 1) := by decide +kernel
theorem dL_225 : decode code 225 = .ok (.aload_n 0, 1) := by decide +kernel
theorem dL_226 : decode code 226 = .ok (.iload 4, 2) := by decide +kernel
theorem dL_228 : decode code 228 = .ok (.iconst 1, 1) := by decide +kernel
theorem dL_229 : decode code 229 = .ok (.iadd, 1) := by decide +kernel
theorem dL_230 : decode code 230 = .ok (.iaload, 1) := by decide +kernel
theorem dL_231 : decode code 231 = .ok (.aload_n 0, 1) := by decide +kernel
theorem dL_232 : decode code 232 = .ok (.iload 4, 2) := by decide +kernel
theorem dL_234 : decode code 234 = .ok (.iconst 2, 1) := by decide +kernel
theorem dL_235 : decode code 235 = .ok (.iadd, 1) := by decide +kernel
theorem dL_236 : decode code 236 = .ok (.iaload, 1) := by decide +kernel
theorem dL_237 : decode code 237 = .ok (.i2l, 1) := by decide +kernel
theorem dL_238 : decode code 238 = .ok (.bipush 32, 2) := by decide +kernel
theorem dL_240 : decode code 240 = .ok (.lshl, 1) := by decide +kernel
theorem dL_241 : decode code 241 = .ok (.aload_n 0, 1) := by decide +kernel
theorem dL_242 : decode code 242 = .ok (.iload 4, 2) := by decide +kernel
theorem dL_244 : decode code 244 = .ok (.iconst 3, 1) := by decide +kernel
theorem dL_245 : decode code 245 = .ok (.iadd, 1) := by decide +kernel
theorem dL_246 : decode code 246 = .ok (.iaload, 1) := by decide +kernel
theorem dL_247 : decode code 247 = .ok (.i2l, 1) := by decide +kernel
theorem dL_248 : decode code 248 = .ok (.ldc2_w 112, 3) := by decide +kernel
theorem dL_251 : decode code 251 = .ok (.land, 1) := by decide +kernel
theorem dL_252 : decode code 252 = .ok (.lor, 1) := by decide +kernel
theorem dL_253 : decode code 253 = .ok (.aload_n 3, 1) := by decide +kernel
theorem dL_254 : decode code 254 = .ok (.invokestatic 114, 3) := by decide +kernel
theorem dL_257 : decode code 257 = .ok (.istore 5, 2) := by decide +kernel
theorem dL_259 : decode code 259 = .ok (.aload_n 2, 1) := by decide +kernel
theorem dL_260 : decode code 260 = .ok (.aload_n 0, 1) := by decide +kernel
theorem dL_261 : decode code 261 = .ok (.iload 4, 2) := by decide +kernel
theorem dL_263 : decode code 263 = .ok (.iconst 1, 1) := by decide +kernel
theorem dL_264 : decode code 264 = .ok (.iadd, 1) := by decide +kernel
theorem dL_265 : decode code 265 = .ok (.iaload, 1) := by decide +kernel
theorem dL_266 : decode code 266 = .ok (.aload_n 0, 1) := by decide +kernel
theorem dL_267 : decode code 267 = .ok (.iload 4, 2) := by decide +kernel
theorem dL_269 : decode code 269 = .ok (.iconst 2, 1) := by decide +kernel
theorem dL_270 : decode code 270 = .ok (.iadd, 1) := by decide +kernel
theorem dL_271 : decode code 271 = .ok (.iaload, 1) := by decide +kernel
theorem dL_272 : decode code 272 = .ok (.i2l, 1) := by decide +kernel
theorem dL_273 : decode code 273 = .ok (.bipush 32, 2) := by decide +kernel
theorem dL_275 : decode code 275 = .ok (.lshl, 1) := by decide +kernel
theorem dL_276 : decode code 276 = .ok (.aload_n 0, 1) := by decide +kernel
theorem dL_277 : decode code 277 = .ok (.iload 4, 2) := by decide +kernel
theorem dL_279 : decode code 279 = .ok (.iconst 3, 1) := by decide +kernel
theorem dL_280 : decode code 280 = .ok (.iadd, 1) := by decide +kernel
theorem dL_281 : decode code 281 = .ok (.iaload, 1) := by decide +kernel
theorem dL_282 : decode code 282 = .ok (.i2l, 1) := by decide +kernel
theorem dL_283 : decode code 283 = .ok (.ldc2_w 112, 3) := by decide +kernel
theorem dL_286 : decode code 286 = .ok (.land, 1) := by decide +kernel
theorem dL_287 : decode code 287 = .ok (.lor, 1) := by decide +kernel
theorem dL_288 : decode code 288 = .ok (.invokevirtual 117, 3) := by decide +kernel
theorem dL_291 : decode code 291 = .ok (.istore 6, 2) := by decide +kernel
theorem dL_293 : decode code 293 = .ok (.aload_n 2, 1) := by decide +kernel
theorem dL_294 : decode code 294 = .ok (.invokevirtual 109, 3) := by decide +kernel
theorem dL_297 : decode code 297 = .ok (.iload 5, 2) := by decide +kernel
theorem dL_299 : decode code 299 = .ok (.if_icmp .eq 5, 3) := by decide +kernel
theorem dL_304 : decode code 304 = .ok (.iload 5, 2) := by decide +kernel
theorem dL_306 : decode code 306 = .ok (.ifCond .ne 15, 3) := by decide +kernel
theorem dL_309 : decode code 309 = .ok (.aload_n 3, 1) := by decide +kernel
theorem dL_310 : decode code 310 = .ok (.iconst 0, 1) := by decide +kernel
theorem dL_311 : decode code 311 = .ok (.laload, 1) := by decide +kernel
theorem dL_312 : decode code 312 = .ok (.iload 6, 2) := by decide +kernel
theorem dL_314 : decode code 314 = .ok (.i2l, 1) := by decide +kernel
theorem dL_315 : decode code 315 = .ok (.lcmp, 1) := by decide +kernel
theorem dL_316 : decode code 316 = .ok (.ifCond .eq 5, 3) := by decide +kernel
theorem dL_321 : decode code 321 = .ok (.goto 1291, 3) := by decide +kernel
theorem dL_324 : decode code 324 = .ok (.aload_n 1, 1) := by decide +kernel
theorem dL_325 : decode code 325 = .ok (.aload_n 0, 1) := by decide +kernel
theorem dL_326 : decode code 326 = .ok (.iload 4, 2) := by decide +kernel
theorem dL_328 : decode code 328 = .ok (.iconst 1, 1) := by decide +kernel
theorem dL_329 : decode code 329 = .ok (.iadd, 1) := by decide +kernel
theorem dL_330 : decode code 330 = .ok (.iaload, 1) := by decide +kernel
theorem dL_331 : decode code 331 = .ok (.aload_n 3, 1) := by decide +kernel
theorem dL_332 : decode code 332 = .ok (.invokestatic 118, 3) := by decide +kernel
theorem dL_335 : decode code 335 = .ok (.istore 5, 2) := by decide +kernel
theorem dL_337 : decode code 337 = .ok (.aload_n 2, 1) := by decide +kernel
theorem dL_338 : decode code 338 = .ok (.aload_n 0, 1) := by decide +kernel
theorem dL_339 : decode code 339 = .ok (.iload 4, 2) := by decide +kernel
theorem dL_341 : decode code 341 = .ok (.iconst 1, 1) := by decide +kernel
theorem dL_342 : decode code 342 = .ok (.iadd, 1) := by decide +kernel
theorem dL_343 : decode code 343 = .ok (.iaload, 1) := by decide +kernel
theorem dL_344 : decode code 344 = .ok (.invokevirtual 121, 3) := by decide +kernel
theorem dL_347 : decode code 347 = .ok (.istore 6, 2) := by decide +kernel
theorem dL_349 : decode code 349 = .ok (.aload_n 2, 1) := by decide +kernel
theorem dL_350 : decode code 350 = .ok (.invokevirtual 109, 3) := by decide +kernel
theorem dL_353 : decode code 353 = .ok (.iload 5, 2) := by decide +kernel
theorem dL_355 : decode code 355 = .ok (.if_icmp .eq 5, 3) := by decide +kernel
theorem dL_360 : decode code 360 = .ok (.iload 5, 2) := by decide +kernel
theorem dL_362 : decode code 362 = .ok (.ifCond .ne 15, 3) := by decide +kernel
theorem dL_365 : decode code 365 = .ok (.aload_n 3, 1) := by decide +kernel
theorem dL_366 : decode code 366 = .ok (.iconst 0, 1) := by decide +kernel
theorem dL_367 : decode code 367 = .ok (.laload, 1) := by decide +kernel
theorem dL_368 : decode code 368 = .ok (.iload 6, 2) := by decide +kernel
theorem dL_370 : decode code 370 = .ok (.i2l, 1) := by decide +kernel
theorem dL_371 : decode code 371 = .ok (.lcmp, 1) := by decide +kernel
theorem dL_372 : decode code 372 = .ok (.ifCond .eq 5, 3) := by decide +kernel
theorem dL_377 : decode code 377 = .ok (.goto 1235, 3) := by decide +kernel
theorem dL_380 : decode code 380 = .ok (.aload_n 1, 1) := by decide +kernel
theorem dL_381 : decode code 381 = .ok (.aload_n 3, 1) := by decide +kernel
theorem dL_382 : decode code 382 = .ok (.invokestatic 122, 3) := by decide +kernel
theorem dL_385 : decode code 385 = .ok (.istore 5, 2) := by decide +kernel
theorem dL_387 : decode code 387 = .ok (.aload_n 2, 1) := by decide +kernel
theorem dL_388 : decode code 388 = .ok (.invokevirtual 125, 3) := by decide +kernel
theorem dL_391 : decode code 391 = .ok (.istore 6, 2) := by decide +kernel
theorem dL_393 : decode code 393 = .ok (.aload_n 2, 1) := by decide +kernel
theorem dL_394 : decode code 394 = .ok (.invokevirtual 109, 3) := by decide +kernel
theorem dL_397 : decode code 397 = .ok (.iload 5, 2) := by decide +kernel
theorem dL_399 : decode code 399 = .ok (.if_icmp .eq 5, 3) := by decide +kernel
theorem dL_404 : decode code 404 = .ok (.iload 5, 2) := by decide +kernel
theorem dL_406 : decode code 406 = .ok (.ifCond .ne 15, 3) := by decide +kernel
theorem dL_409 : decode code 409 = .ok (.aload_n 3, 1) := by decide +kernel
theorem dL_410 : decode code 410 = .ok (.iconst 0, 1) := by decide +kernel
theorem dL_411 : decode code 411 = .ok (.laload, 1) := by decide +kernel
theorem dL_412 : decode code 412 = .ok (.iload 6, 2) := by decide +kernel
theorem dL_414 : decode code 414 = .ok (.i2l, 1) := by decide +kernel
theorem dL_415 : decode code 415 = .ok (.lcmp, 1) := by decide +kernel
theorem dL_416 : decode code 416 = .ok (.ifCond .eq 5, 3) := by decide +kernel
theorem dL_421 : decode code 421 = .ok (.goto 1191, 3) := by decide +kernel
theorem dL_424 : decode code 424 = .ok (.aload_n 1, 1) := by decide +kernel
theorem dL_425 : decode code 425 = .ok (.aload_n 0, 1) := by decide +kernel
theorem dL_426 : decode code 426 = .ok (.iload 4, 2) := by decide +kernel
theorem dL_428 : decode code 428 = .ok (.iconst 1, 1) := by decide +kernel
theorem dL_429 : decode code 429 = .ok (.iadd, 1) := by decide +kernel
theorem dL_430 : decode code 430 = .ok (.iaload, 1) := by decide +kernel
theorem dL_431 : decode code 431 = .ok (.aload_n 3, 1) := by decide +kernel
theorem dL_432 : decode code 432 = .ok (.invokestatic 126, 3) := by decide +kernel
theorem dL_435 : decode code 435 = .ok (.istore 5, 2) := by decide +kernel
theorem dL_437 : decode code 437 = .ok (.aload_n 2, 1) := by decide +kernel
theorem dL_438 : decode code 438 = .ok (.aload_n 0, 1) := by decide +kernel
theorem dL_439 : decode code 439 = .ok (.iload 4, 2) := by decide +kernel
theorem dL_441 : decode code 441 = .ok (.iconst 1, 1) := by decide +kernel
theorem dL_442 : decode code 442 = .ok (.iadd, 1) := by decide +kernel
theorem dL_443 : decode code 443 = .ok (.iaload, 1) := by decide +kernel
theorem dL_444 : decode code 444 = .ok (.invokevirtual 128, 3) := by decide +kernel
theorem dL_447 : decode code 447 = .ok (.istore 6, 2) := by decide +kernel
theorem dL_449 : decode code 449 = .ok (.aload_n 2, 1) := by decide +kernel
theorem dL_450 : decode code 450 = .ok (.invokevirtual 109, 3) := by decide +kernel
theorem dL_453 : decode code 453 = .ok (.iload 5, 2) := by decide +kernel
theorem dL_455 : decode code 455 = .ok (.if_icmp .eq 5, 3) := by decide +kernel
theorem dL_460 : decode code 460 = .ok (.iload 5, 2) := by decide +kernel
theorem dL_462 : decode code 462 = .ok (.ifCond .ne 15, 3) := by decide +kernel
theorem dL_465 : decode code 465 = .ok (.aload_n 3, 1) := by decide +kernel
theorem dL_466 : decode code 466 = .ok (.iconst 0, 1) := by decide +kernel
theorem dL_467 : decode code 467 = .ok (.laload, 1) := by decide +kernel
theorem dL_468 : decode code 468 = .ok (.iload 6, 2) := by decide +kernel
theorem dL_470 : decode code 470 = .ok (.i2l, 1) := by decide +kernel
theorem dL_471 : decode code 471 = .ok (.lcmp, 1) := by decide +kernel
theorem dL_472 : decode code 472 = .ok (.ifCond .eq 5, 3) := by decide +kernel
theorem dL_477 : decode code 477 = .ok (.goto 1135, 3) := by decide +kernel
theorem dL_480 : decode code 480 = .ok (.aload_n 1, 1) := by decide +kernel
theorem dL_481 : decode code 481 = .ok (.aload_n 0, 1) := by decide +kernel
theorem dL_482 : decode code 482 = .ok (.iload 4, 2) := by decide +kernel
theorem dL_484 : decode code 484 = .ok (.iconst 1, 1) := by decide +kernel
theorem dL_485 : decode code 485 = .ok (.iadd, 1) := by decide +kernel
theorem dL_486 : decode code 486 = .ok (.iaload, 1) := by decide +kernel
theorem dL_487 : decode code 487 = .ok (.i2l, 1) := by decide +kernel
theorem dL_488 : decode code 488 = .ok (.bipush 32, 2) := by decide +kernel
theorem dL_490 : decode code 490 = .ok (.lshl, 1) := by decide +kernel
theorem dL_491 : decode code 491 = .ok (.aload_n 0, 1) := by decide +kernel
theorem dL_492 : decode code 492 = .ok (.iload 4, 2) := by decide +kernel
theorem dL_494 : decode code 494 = .ok (.iconst 2, 1) := by decide +kernel
theorem dL_495 : decode code 495 = .ok (.iadd, 1) := by decide +kernel
theorem dL_496 : decode code 496 = .ok (.iaload, 1) := by decide +kernel
theorem dL_497 : decode code 497 = .ok (.i2l, 1) := by decide +kernel
theorem dL_498 : decode code 498 = .ok (.ldc2_w 112, 3) := by decide +kernel
theorem dL_501 : decode code 501 = .ok (.land, 1) := by decide +kernel
theorem dL_502 : decode code 502 = .ok (.lor, 1) := by decide +kernel
theorem dL_503 : decode code 503 = .ok (.aload_n 0, 1) := by decide +kernel
theorem dL_504 : decode code 504 = .ok (.iload 4, 2) := by decide +kernel
theorem dL_506 : decode code 506 = .ok (.iconst 3, 1) := by decide +kernel
theorem dL_507 : decode code 507 = .ok (.iadd, 1) := by decide +kernel
theorem dL_508 : decode code 508 = .ok (.iaload, 1) := by decide +kernel
theorem dL_509 : decode code 509 = .ok (.aload_n 3, 1) := by decide +kernel
theorem dL_510 : decode code 510 = .ok (.invokestatic 129, 3) := by decide +kernel
theorem dL_513 : decode code 513 = .ok (.istore 5, 2) := by decide +kernel
theorem dL_515 : decode code 515 = .ok (.aload_n 2, 1) := by decide +kernel
theorem dL_516 : decode code 516 = .ok (.aload_n 0, 1) := by decide +kernel
theorem dL_517 : decode code 517 = .ok (.iload 4, 2) := by decide +kernel
theorem dL_519 : decode code 519 = .ok (.iconst 1, 1) := by decide +kernel
