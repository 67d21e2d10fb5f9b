/-! the law decoded, 1 -/
theorem dw_0 : decode code 0 = .ok (.new 8, 3) := by decide +kernel
theorem dw_3 : decode code 3 = .ok (.dup, 1) := by decide +kernel
theorem dw_4 : decode code 4 = .ok (.invokespecial 46, 3) := by decide +kernel
theorem dw_7 : decode code 7 = .ok (.astore_n 1, 1) := by decide +kernel
theorem dw_8 : decode code 8 = .ok (.new 47, 3) := by decide +kernel
theorem dw_11 : decode code 11 = .ok (.dup, 1) := by decide +kernel
theorem dw_12 : decode code 12 = .ok (.invokespecial 49, 3) := by decide +kernel
theorem dw_15 : decode code 15 = .ok (.astore_n 2, 1) := by decide +kernel
theorem dw_16 : decode code 16 = .ok (.iconst 1, 1) := by decide +kernel
theorem dw_17 : decode code 17 = .ok (.newarray .long, 2) := by decide +kernel
theorem dw_19 : decode code 19 = .ok (.astore_n 3, 1) := by decide +kernel
theorem dw_20 : decode code 20 = .ok (.iconst 0, 1) := by decide +kernel
theorem dw_21 : decode code 21 = .ok (.istore 4, 2) := by decide +kernel
theorem dw_23 : decode code 23 = .ok (.iload 4, 2) := by decide +kernel
theorem dw_25 : decode code 25 = .ok (.aload_n 0, 1) := by decide +kernel
theorem dw_26 : decode code 26 = .ok (.arraylength, 1) := by decide +kernel
theorem dw_27 : decode code 27 = .ok (.bipush 6, 2) := by decide +kernel
theorem dw_29 : decode code 29 = .ok (.isub, 1) := by decide +kernel
theorem dw_30 : decode code 30 = .ok (.if_icmp .gt 1698, 3) := by decide +kernel
theorem dw_33 : decode code 33 = .ok (.aload_n 0, 1) := by decide +kernel
theorem dw_34 : decode code 34 = .ok (.iload 4, 2) := by decide +kernel
theorem dw_36 : decode code 36 = .ok (.iaload, 1) := by decide +kernel
theorem dw_37 : decode code 37 = .ok (.bipush 63, 2) := by decide +kernel
theorem dw_39 : decode code 39 = .ok (.iand, 1) := by decide +kernel
theorem dw_40 : decode code 40 = .ok (.tableswitch 1682 0 43 #[192, 265, 290, 303, 316, 353, 390, 427, 464, 477, 502, 515, 570, 637, 650, 663, 676, 689, 702, 769, 782, 849, 874, 899, 924, 937, 992, 1005, 1072, 1127, 1194, 1207, 1274, 1341, 1408, 1445, 1458, 1483, 1520, 1569, 1582, 1607, 1632, 1657], 192) := by decide +kernel
theorem dw_232 : decode code 232 = .ok (.aload_n 1, 1) := by decide +kernel
theorem dw_233 : decode code 233 = .ok (.aload_n 0, 1) := by decide +kernel
theorem dw_234 : decode code 234 = .ok (.iload 4, 2) := by decide +kernel
theorem dw_236 : decode code 236 = .ok (.iconst 1, 1) := by decide +kernel
theorem dw_237 : decode code 237 = .ok (.iadd, 1) := by decide +kernel
theorem dw_238 : decode code 238 = .ok (.iaload, 1) := by decide +kernel
theorem dw_239 : decode code 239 = .ok (.aload_n 0, 1) := by decide +kernel
theorem dw_240 : decode code 240 = .ok (.iload 4, 2) := by decide +kernel
theorem dw_242 : decode code 242 = .ok (.iconst 2, 1) := by decide +kernel
theorem dw_243 : decode code 243 = .ok (.iadd, 1) := by decide +kernel
theorem dw_244 : decode code 244 = .ok (.iaload, 1) := by decide +kernel
theorem dw_245 : decode code 245 = .ok (.aload_n 0, 1) := by decide +kernel
theorem dw_246 : decode code 246 = .ok (.iload 4, 2) := by decide +kernel
theorem dw_248 : decode code 248 = .ok (.iconst 3, 1) := by decide +kernel
theorem dw_249 : decode code 249 = .ok (.iadd, 1) := by decide +kernel
theorem dw_250 : decode code 250 = .ok (.iaload, 1) := by decide +kernel
theorem dw_251 : decode code 251 = .ok (.aload_n 0, 1) := by decide +kernel
theorem dw_252 : decode code 252 = .ok (.iload 4, 2) := by decide +kernel
theorem dw_254 : decode code 254 = .ok (.iconst 4, 1) := by decide +kernel
theorem dw_255 : decode code 255 = .ok (.iadd, 1) := by decide +kernel
theorem dw_256 : decode code 256 = .ok (.iaload, 1) := by decide +kernel
theorem dw_257 : decode code 257 = .ok (.aload_n 0, 1) := by decide +kernel
theorem dw_258 : decode code 258 = .ok (.iload 4, 2) := by decide +kernel
theorem dw_260 : decode code 260 = .ok (.iconst 5, 1) := by decide +kernel
theorem dw_261 : decode code 261 = .ok (.iadd, 1) := by decide +kernel
theorem dw_262 : decode code 262 = .ok (.iaload, 1) := by decide +kernel
theorem dw_263 : decode code 263 = .ok (.invokevirtual 50, 3) := by decide +kernel
theorem dw_266 : decode code 266 = .ok (.aload_n 2, 1) := by decide +kernel
theorem dw_267 : decode code 267 = .ok (.aload_n 0, 1) := by decide +kernel
theorem dw_268 : decode code 268 = .ok (.iload 4, 2) := by decide +kernel
theorem dw_270 : decode code 270 = .ok (.iconst 1, 1) := by decide +kernel
theorem dw_271 : decode code 271 = .ok (.iadd, 1) := by decide +kernel
theorem dw_272 : decode code 272 = .ok (.iaload, 1) := by decide +kernel
theorem dw_273 : decode code 273 = .ok (.aload_n 0, 1) := by decide +kernel
theorem dw_274 : decode code 274 = .ok (.iload 4, 2) := by decide +kernel
theorem dw_276 : decode code 276 = .ok (.iconst 2, 1) := by decide +kernel
theorem dw_277 : decode code 277 = .ok (.iadd, 1) := by decide +kernel
theorem dw_278 : decode code 278 = .ok (.iaload, 1) := by decide +kernel
theorem dw_279 : decode code 279 = .ok (.aload_n 0, 1) := by decide +kernel
theorem dw_280 : decode code 280 = .ok (.iload 4, 2) := by decide +kernel
theorem dw_282 : decode code 282 = .ok (.iconst 3, 1) := by decide +kernel
theorem dw_283 : decode code 283 = .ok (.iadd, 1) := by decide +kernel
theorem dw_284 : decode code 284 = .ok (.iaload, 1) := by decide +kernel
theorem dw_285 : decode code 285 = .ok (.aload_n 0, 1) := by decide +kernel
theorem dw_286 : decode code 286 = .ok (.iload 4, 2) := by decide +kernel
theorem dw_288 : decode code 288 = .ok (.iconst 4, 1) := by decide +kernel
theorem dw_289 : decode code 289 = .ok (.iadd, 1) := by decide +kernel
theorem dw_290 : decode code 290 = .ok (.iaload, 1) := by decide +kernel
theorem dw_291 : decode code 291 = .ok (.aload_n 0, 1) := by decide +kernel
theorem dw_292 : decode code 292 = .ok (.iload 4, 2) := by decide +kernel
theorem dw_294 : decode code 294 = .ok (.iconst 5, 1) := by decide +kernel
theorem dw_295 : decode code 295 = .ok (.iadd, 1) := by decide +kernel
theorem dw_296 : decode code 296 = .ok (.iaload, 1) := by decide +kernel
theorem dw_297 : decode code 297 = .ok (.invokevirtual 54, 3) := by decide +kernel
theorem dw_300 : decode code 300 = .ok (.if_icmp .eq 1422, 3) := by decide +kernel
theorem dw_303 : decode code 303 = .ok (.iconst 0, 1) := by decide +kernel
theorem dw_304 : decode code 304 = .ok (.ireturn, 1) := by decide +kernel
theorem dw_305 : decode code 305 = .ok (.aload_n 1, 1) := by decide +kernel
theorem dw_306 : decode code 306 = .ok (.aload_n 0, 1) := by decide +kernel
theorem dw_307 : decode code 307 = .ok (.iload 4, 2) := by decide +kernel
theorem dw_309 : decode code 309 = .ok (.iconst 1, 1) := by decide +kernel
theorem dw_310 : decode code 310 = .ok (.iadd, 1) := by decide +kernel
theorem dw_311 : decode code 311 = .ok (.iaload, 1) := by decide +kernel
theorem dw_312 : decode code 312 = .ok (.invokevirtual 55, 3) := by decide +kernel
theorem dw_315 : decode code 315 = .ok (.aload_n 2, 1) := by decide +kernel
theorem dw_316 : decode code 316 = .ok (.aload_n 0, 1) := by decide +kernel
theorem dw_317 : decode code 317 = .ok (.iload 4, 2) := by decide +kernel
theorem dw_319 : decode code 319 = .ok (.iconst 1, 1) := by decide +kernel
theorem dw_320 : decode code 320 = .ok (.iadd, 1) := by decide +kernel
theorem dw_321 : decode code 321 = .ok (.iaload, 1) := by decide +kernel
theorem dw_322 : decode code 322 = .ok (.invokevirtual 59, 3) := by decide +kernel
theorem dw_325 : decode code 325 = .ok (.if_icmp .eq 1397, 3) := by decide +kernel
theorem dw_328 : decode code 328 = .ok (.iconst 0, 1) := by decide +kernel
theorem dw_329 : decode code 329 = .ok (.ireturn, 1) := by decide +kernel
theorem dw_330 : decode code 330 = .ok (.aload_n 1, 1) := by decide +kernel
theorem dw_331 : decode code 331 = .ok (.invokevirtual 60, 3) := by decide +kernel
theorem dw_334 : decode code 334 = .ok (.aload_n 2, 1) := by decide +kernel
theorem dw_335 : decode code 335 = .ok (.invokevirtual 64, 3) := by decide +kernel
theorem dw_338 : decode code 338 = .ok (.if_icmp .eq 1384, 3) := by decide +kernel
theorem dw_341 : decode code 341 = .ok (.iconst 0, 1) := by decide +kernel
theorem dw_342 : decode code 342 = .ok (.ireturn, 1) := by decide +kernel
theorem dw_343 : decode code 343 = .ok (.aload_n 1, 1) := by decide +kernel
theorem dw_344 : decode code 344 = .ok (.invokevirtual 65, 3) := by decide +kernel
theorem dw_347 : decode code 347 = .ok (.aload_n 2, 1) := by decide +kernel
theorem dw_348 : decode code 348 = .ok (.invokevirtual 68, 3) := by decide +kernel
theorem dw_351 : decode code 351 = .ok (.if_icmp .eq 1371, 3) := by decide +kernel
theorem dw_354 : decode code 354 = .ok (.iconst 0, 1) := by decide +kernel
theorem dw_355 : decode code 355 = .ok (.ireturn, 1) := by decide +kernel
theorem dw_356 : decode code 356 = .ok (.aload_n 1, 1) := by decide +kernel
theorem dw_357 : decode code 357 = .ok (.aload_n 0, 1) := by decide +kernel
theorem dw_358 : decode code 358 = .ok (.iload 4, 2) := by decide +kernel
theorem dw_360 : decode code 360 = .ok (.iconst 1, 1) := by decide +kernel
theorem dw_361 : decode code 361 = .ok (.iadd, 1) := by decide +kernel
theorem dw_362 : decode code 362 = .ok (.iaload, 1) := by decide +kernel
theorem dw_363 : decode code 363 = .ok (.aload_n 0, 1) := by decide +kernel
theorem dw_364 : decode code 364 = .ok (.iload 4, 2) := by decide +kernel
theorem dw_366 : decode code 366 = .ok (.iconst 2, 1) := by decide +kernel
theorem dw_367 : decode code 367 = .ok (.iadd, 1) := by decide +kernel
theorem dw_368 : decode code 368 = .ok (.iaload, 1) := by decide +kernel
theorem dw_369 : decode code 369 = .ok (.invokevirtual 69, 3) := by decide +kernel
theorem dw_372 : decode code 372 = .ok (.aload_n 2, 1) := by decide +kernel
theorem dw_373 : decode code 373 = .ok (.aload_n 0, 1) := by decide +kernel
theorem dw_374 : decode code 374 = .ok (.iload 4, 2) := by decide +kernel
theorem dw_376 : decode code 376 = .ok (.iconst 1, 1) := by decide +kernel
theorem dw_377 : decode code 377 = .ok (.iadd, 1) := by decide +kernel
theorem dw_378 : decode code 378 = .ok (.iaload, 1) := by decide +kernel
theorem dw_379 : decode code 379 = .ok (.aload_n 0, 1) := by decide +kernel
theorem dw_380 : decode code 380 = .ok (.iload 4, 2) := by decide +kernel
theorem dw_382 : decode code 382 = .ok (.iconst 2, 1) := by decide +kernel
theorem dw_383 : decode code 383 = .ok (.iadd, 1) := by decide +kernel
theorem dw_384 : decode code 384 = .ok (.iaload, 1) := by decide +kernel
theorem dw_385 : decode code 385 = .ok (.invokevirtual 73, 3) := by decide +kernel
theorem dw_388 : decode code 388 = .ok (.if_icmp .eq 1334, 3) := by decide +kernel
theorem dw_391 : decode code 391 = .ok (.iconst 0, 1) := by decide +kernel
theorem dw_392 : decode code 392 = .ok (.ireturn, 1) := by decide +kernel
theorem dw_393 : decode code 393 = .ok (.aload_n 1, 1) := by decide +kernel
theorem dw_394 : decode code 394 = .ok (.aload_n 0, 1) := by decide +kernel
theorem dw_395 : decode code 395 = .ok (.iload 4, 2) := by decide +kernel
theorem dw_397 : decode code 397 = .ok (.iconst 1, 1) := by decide +kernel
theorem dw_398 : decode code 398 = .ok (.iadd, 1) := by decide +kernel
theorem dw_399 : decode code 399 = .ok (.iaload, 1) := by decide +kernel
theorem dw_400 : decode code 400 = .ok (.aload_n 0, 1) := by decide +kernel
theorem dw_401 : decode code 401 = .ok (.iload 4, 2) := by decide +kernel
theorem dw_403 : decode code 403 = .ok (.iconst 2, 1) := by decide +kernel
theorem dw_404 : decode code 404 = .ok (.iadd, 1) := by decide +kernel
theorem dw_405 : decode code 405 = .ok (.iaload, 1) := by decide +kernel
theorem dw_406 : decode code 406 = .ok (.invokevirtual 74, 3) := by decide +kernel
theorem dw_409 : decode code 409 = .ok (.aload_n 2, 1) := by decide +kernel
theorem dw_410 : decode code 410 = .ok (.aload_n 0, 1) := by decide +kernel
theorem dw_411 : decode code 411 = .ok (.iload 4, 2) := by decide +kernel
theorem dw_413 : decode code 413 = .ok (.iconst 1, 1) := by decide +kernel
theorem dw_414 : decode code 414 = .ok (.iadd, 1) := by decide +kernel
theorem dw_415 : decode code 415 = .ok (.iaload, 1) := by decide +kernel
theorem dw_416 : decode code 416 = .ok (.aload_n 0, 1) := by decide +kernel
theorem dw_417 : decode code 417 = .ok (.iload 4, 2) := by decide +kernel
theorem dw_419 : decode code 419 = .ok (.iconst 2, 1) := by decide +kernel
theorem dw_420 : decode code 420 = .ok (.iadd, 1) := by decide +kernel
theorem dw_421 : decode code 421 = .ok (.iaload, 1) := by decide +kernel
theorem dw_422 : decode code 422 = .ok (.invokevirtual 77, 3) := by decide +kernel
theorem dw_425 : decode code 425 = .ok (.if_icmp .eq 1297, 3) := by decide +kernel
theorem dw_428 : decode code 428 = .ok (.iconst 0, 1) := by decide +kernel
theorem dw_429 : decode code 429 = .ok (.ireturn, 1) := by decide +kernel
theorem dw_430 : decode code 430 = .ok (.aload_n 1, 1) := by decide +kernel
theorem dw_431 : decode code 431 = .ok (.aload_n 0, 1) := by decide +kernel
theorem dw_432 : decode code 432 = .ok (.iload 4, 2) := by decide +kernel
theorem dw_434 : decode code 434 = .ok (.iconst 1, 1) := by decide +kernel
theorem dw_435 : decode code 435 = .ok (.iadd, 1) := by decide +kernel
theorem dw_436 : decode code 436 = .ok (.iaload, 1) := by decide +kernel
theorem dw_437 : decode code 437 = .ok (.aload_n 0, 1) := by decide +kernel
theorem dw_438 : decode code 438 = .ok (.iload 4, 2) := by decide +kernel
theorem dw_440 : decode code 440 = .ok (.iconst 2, 1) := by decide +kernel
theorem dw_441 : decode code 441 = .ok (.iadd, 1) := by decide +kernel
theorem dw_442 : decode code 442 = .ok (.iaload, 1) := by decide +kernel
theorem dw_443 : decode code 443 = .ok (.invokevirtual 78, 3) := by decide +kernel
theorem dw_446 : decode code 446 = .ok (.aload_n 2, 1) := by decide +kernel
theorem dw_447 : decode code 447 = .ok (.aload_n 0, 1) := by decide +kernel
theorem dw_448 : decode code 448 = .ok (.iload 4, 2) := by decide +kernel
theorem dw_450 : decode code 450 = .ok (.iconst 1, 1) := by decide +kernel
theorem dw_451 : decode code 451 = .ok (.iadd, 1) := by decide +kernel
theorem dw_452 : decode code 452 = .ok (.iaload, 1) := by decide +kernel
theorem dw_453 : decode code 453 = .ok (.aload_n 0, 1) := by decide +kernel
theorem dw_454 : decode code 454 = .ok (.iload 4, 2) := by decide +kernel
theorem dw_456 : decode code 456 = .ok (.iconst 2, 1) := by decide +kernel
theorem dw_457 : decode code 457 = .ok (.iadd, 1) := by decide +kernel
theorem dw_458 : decode code 458 = .ok (.iaload, 1) := by decide +kernel
