theorem dL_law_23 : decode cL_law 23 = .ok (.iload 4, 2) := by decide +kernel
theorem dL_law_25 : decode cL_law 25 = .ok (.aload_n 0, 1) := by decide +kernel
theorem dL_law_26 : decode cL_law 26 = .ok (.arraylength, 1) := by decide +kernel
theorem dL_law_27 : decode cL_law 27 = .ok (.bipush 6, 2) := by decide +kernel
theorem dL_law_29 : decode cL_law 29 = .ok (.isub, 1) := by decide +kernel
theorem dL_law_30 : decode cL_law 30 = .ok (.if_icmp .gt 1320, 3) := by decide +kernel
theorem dL_law_33 : decode cL_law 33 = .ok (.aload_n 0, 1) := by decide +kernel
theorem dL_law_34 : decode cL_law 34 = .ok (.iload 4, 2) := by decide +kernel
theorem dL_law_36 : decode cL_law 36 = .ok (.iaload, 1) := by decide +kernel
theorem dL_law_37 : decode cL_law 37 = .ok (.bipush 63, 2) := by decide +kernel
theorem dL_law_39 : decode cL_law 39 = .ok (.iand, 1) := by decide +kernel
theorem dL_law_40 : decode cL_law 40 = .ok (.tableswitch 1304 0 40 #[180, 253, 278, 291, 304, 344, 381, 418, 443, 492, 541, 566, 591, 616, 641, 666, 679, 704, 741, 754, 779, 792, 805, 818, 867, 892, 905, 930, 955, 992, 1005, 1030, 1055, 1092, 1141, 1166, 1191, 1204, 1229, 1254, 1279], 180) := by decide +kernel
theorem dL_law_220 : decode cL_law 220 = .ok (.aload_n 1, 1) := by decide +kernel
theorem dL_law_221 : decode cL_law 221 = .ok (.aload_n 0, 1) := by decide +kernel
theorem dL_law_222 : decode cL_law 222 = .ok (.iload 4, 2) := by decide +kernel
theorem dL_law_224 : decode cL_law 224 = .ok (.iconst 1, 1) := by decide +kernel
theorem dL_law_225 : decode cL_law 225 = .ok (.iadd, 1) := by decide +kernel
theorem dL_law_226 : decode cL_law 226 = .ok (.iaload, 1) := by decide +kernel
theorem dL_law_227 : decode cL_law 227 = .ok (.aload_n 0, 1) := by decide +kernel
theorem dL_law_228 : decode cL_law 228 = .ok (.iload 4, 2) := by decide +kernel
theorem dL_law_230 : decode cL_law 230 = .ok (.iconst 2, 1) := by decide +kernel
theorem dL_law_231 : decode cL_law 231 = .ok (.iadd, 1) := by decide +kernel
theorem dL_law_232 : decode cL_law 232 = .ok (.iaload, 1) := by decide +kernel
theorem dL_law_233 : decode cL_law 233 = .ok (.aload_n 0, 1) := by decide +kernel
theorem dL_law_234 : decode cL_law 234 = .ok (.iload 4, 2) := by decide +kernel
theorem dL_law_236 : decode cL_law 236 = .ok (.iconst 3, 1) := by decide +kernel
theorem dL_law_237 : decode cL_law 237 = .ok (.iadd, 1) := by decide +kernel
theorem dL_law_238 : decode cL_law 238 = .ok (.iaload, 1) := by decide +kernel
theorem dL_law_239 : decode cL_law 239 = .ok (.aload_n 0, 1) := by decide +kernel
theorem dL_law_240 : decode cL_law 240 = .ok (.iload 4, 2) := by decide +kernel
theorem dL_law_242 : decode cL_law 242 = .ok (.iconst 4, 1) := by decide +kernel
theorem dL_law_243 : decode cL_law 243 = .ok (.iadd, 1) := by decide +kernel
theorem dL_law_244 : decode cL_law 244 = .ok (.iaload, 1) := by decide +kernel
theorem dL_law_245 : decode cL_law 245 = .ok (.aload_n 0, 1) := by decide +kernel
theorem dL_law_246 : decode cL_law 246 = .ok (.iload 4, 2) := by decide +kernel
theorem dL_law_248 : decode cL_law 248 = .ok (.iconst 5, 1) := by decide +kernel
theorem dL_law_249 : decode cL_law 249 = .ok (.iadd, 1) := by decide +kernel
theorem dL_law_250 : decode cL_law 250 = .ok (.iaload, 1) := by decide +kernel
theorem dL_law_251 : decode cL_law 251 = .ok (.invokevirtual 19, 3) := by decide +kernel
theorem dL_law_254 : decode cL_law 254 = .ok (.pop, 1) := by decide +kernel
theorem dL_law_255 : decode cL_law 255 = .ok (.aload_n 2, 1) := by decide +kernel
theorem dL_law_256 : decode cL_law 256 = .ok (.aload_n 0, 1) := by decide +kernel
theorem dL_law_257 : decode cL_law 257 = .ok (.iload 4, 2) := by decide +kernel
theorem dL_law_259 : decode cL_law 259 = .ok (.iconst 1, 1) := by decide +kernel
theorem dL_law_260 : decode cL_law 260 = .ok (.iadd, 1) := by decide +kernel
theorem dL_law_261 : decode cL_law 261 = .ok (.iaload, 1) := by decide +kernel
theorem dL_law_262 : decode cL_law 262 = .ok (.aload_n 0, 1) := by decide +kernel
theorem dL_law_263 : decode cL_law 263 = .ok (.iload 4, 2) := by decide +kernel
theorem dL_law_265 : decode cL_law 265 = .ok (.iconst 2, 1) := by decide +kernel
theorem dL_law_266 : decode cL_law 266 = .ok (.iadd, 1) := by decide +kernel
theorem dL_law_267 : decode cL_law 267 = .ok (.iaload, 1) := by decide +kernel
theorem dL_law_268 : decode cL_law 268 = .ok (.aload_n 0, 1) := by decide +kernel
theorem dL_law_269 : decode cL_law 269 = .ok (.iload 4, 2) := by decide +kernel
theorem dL_law_271 : decode cL_law 271 = .ok (.iconst 3, 1) := by decide +kernel
theorem dL_law_272 : decode cL_law 272 = .ok (.iadd, 1) := by decide +kernel
theorem dL_law_273 : decode cL_law 273 = .ok (.iaload, 1) := by decide +kernel
theorem dL_law_274 : decode cL_law 274 = .ok (.aload_n 0, 1) := by decide +kernel
theorem dL_law_275 : decode cL_law 275 = .ok (.iload 4, 2) := by decide +kernel
theorem dL_law_277 : decode cL_law 277 = .ok (.iconst 4, 1) := by decide +kernel
theorem dL_law_278 : decode cL_law 278 = .ok (.iadd, 1) := by decide +kernel
theorem dL_law_279 : decode cL_law 279 = .ok (.iaload, 1) := by decide +kernel
theorem dL_law_280 : decode cL_law 280 = .ok (.aload_n 0, 1) := by decide +kernel
theorem dL_law_281 : decode cL_law 281 = .ok (.iload 4, 2) := by decide +kernel
theorem dL_law_283 : decode cL_law 283 = .ok (.iconst 5, 1) := by decide +kernel
theorem dL_law_284 : decode cL_law 284 = .ok (.iadd, 1) := by decide +kernel
theorem dL_law_285 : decode cL_law 285 = .ok (.iaload, 1) := by decide +kernel
theorem dL_law_286 : decode cL_law 286 = .ok (.invokevirtual 23, 3) := by decide +kernel
theorem dL_law_289 : decode cL_law 289 = .ok (.pop, 1) := by decide +kernel
theorem dL_law_290 : decode cL_law 290 = .ok (.goto 1054, 3) := by decide +kernel
theorem dL_law_293 : decode cL_law 293 = .ok (.aload_n 1, 1) := by decide +kernel
theorem dL_law_294 : decode cL_law 294 = .ok (.aload_n 0, 1) := by decide +kernel
theorem dL_law_295 : decode cL_law 295 = .ok (.iload 4, 2) := by decide +kernel
theorem dL_law_297 : decode cL_law 297 = .ok (.iconst 1, 1) := by decide +kernel
theorem dL_law_298 : decode cL_law 298 = .ok (.iadd, 1) := by decide +kernel
theorem dL_law_299 : decode cL_law 299 = .ok (.iaload, 1) := by decide +kernel
theorem dL_law_300 : decode cL_law 300 = .ok (.invokevirtual 24, 3) := by decide +kernel
theorem dL_law_303 : decode cL_law 303 = .ok (.pop, 1) := by decide +kernel
theorem dL_law_304 : decode cL_law 304 = .ok (.aload_n 2, 1) := by decide +kernel
theorem dL_law_305 : decode cL_law 305 = .ok (.aload_n 0, 1) := by decide +kernel
theorem dL_law_306 : decode cL_law 306 = .ok (.iload 4, 2) := by decide +kernel
theorem dL_law_308 : decode cL_law 308 = .ok (.iconst 1, 1) := by decide +kernel
theorem dL_law_309 : decode cL_law 309 = .ok (.iadd, 1) := by decide +kernel
theorem dL_law_310 : decode cL_law 310 = .ok (.iaload, 1) := by decide +kernel
theorem dL_law_311 : decode cL_law 311 = .ok (.invokevirtual 28, 3) := by decide +kernel
theorem dL_law_314 : decode cL_law 314 = .ok (.pop, 1) := by decide +kernel
theorem dL_law_315 : decode cL_law 315 = .ok (.goto 1029, 3) := by decide +kernel
theorem dL_law_318 : decode cL_law 318 = .ok (.aload_n 1, 1) := by decide +kernel
theorem dL_law_319 : decode cL_law 319 = .ok (.invokevirtual 29, 3) := by decide +kernel
theorem dL_law_322 : decode cL_law 322 = .ok (.pop, 1) := by decide +kernel
theorem dL_law_323 : decode cL_law 323 = .ok (.aload_n 2, 1) := by decide +kernel
theorem dL_law_324 : decode cL_law 324 = .ok (.invokevirtual 33, 3) := by decide +kernel
theorem dL_law_327 : decode cL_law 327 = .ok (.pop, 1) := by decide +kernel
theorem dL_law_328 : decode cL_law 328 = .ok (.goto 1016, 3) := by decide +kernel
theorem dL_law_331 : decode cL_law 331 = .ok (.aload_n 1, 1) := by decide +kernel
theorem dL_law_332 : decode cL_law 332 = .ok (.invokevirtual 34, 3) := by decide +kernel
theorem dL_law_335 : decode cL_law 335 = .ok (.aload_n 2, 1) := by decide +kernel
theorem dL_law_336 : decode cL_law 336 = .ok (.invokevirtual 37, 3) := by decide +kernel
theorem dL_law_339 : decode cL_law 339 = .ok (.if_icmp .eq 1005, 3) := by decide +kernel
theorem dL_law_344 : decode cL_law 344 = .ok (.aload_n 1, 1) := by decide +kernel
theorem dL_law_345 : decode cL_law 345 = .ok (.aload_n 0, 1) := by decide +kernel
theorem dL_law_346 : decode cL_law 346 = .ok (.iload 4, 2) := by decide +kernel
theorem dL_law_348 : decode cL_law 348 = .ok (.iconst 1, 1) := by decide +kernel
theorem dL_law_349 : decode cL_law 349 = .ok (.iadd, 1) := by decide +kernel
theorem dL_law_350 : decode cL_law 350 = .ok (.iaload, 1) := by decide +kernel
theorem dL_law_351 : decode cL_law 351 = .ok (.aload_n 0, 1) := by decide +kernel
theorem dL_law_352 : decode cL_law 352 = .ok (.iload 4, 2) := by decide +kernel
theorem dL_law_354 : decode cL_law 354 = .ok (.iconst 2, 1) := by decide +kernel
theorem dL_law_355 : decode cL_law 355 = .ok (.iadd, 1) := by decide +kernel
theorem dL_law_356 : decode cL_law 356 = .ok (.iaload, 1) := by decide +kernel
theorem dL_law_357 : decode cL_law 357 = .ok (.aload_n 3, 1) := by decide +kernel
theorem dL_law_358 : decode cL_law 358 = .ok (.invokestatic 38, 3) := by decide +kernel
theorem dL_law_361 : decode cL_law 361 = .ok (.istore 5, 2) := by decide +kernel
theorem dL_law_363 : decode cL_law 363 = .ok (.aload_n 2, 1) := by decide +kernel
theorem dL_law_364 : decode cL_law 364 = .ok (.aload_n 0, 1) := by decide +kernel
theorem dL_law_365 : decode cL_law 365 = .ok (.iload 4, 2) := by decide +kernel
theorem dL_law_367 : decode cL_law 367 = .ok (.iconst 1, 1) := by decide +kernel
theorem dL_law_368 : decode cL_law 368 = .ok (.iadd, 1) := by decide +kernel
theorem dL_law_369 : decode cL_law 369 = .ok (.iaload, 1) := by decide +kernel
theorem dL_law_370 : decode cL_law 370 = .ok (.aload_n 0, 1) := by decide +kernel
theorem dL_law_371 : decode cL_law 371 = .ok (.iload 4, 2) := by decide +kernel
theorem dL_law_373 : decode cL_law 373 = .ok (.iconst 2, 1) := by decide +kernel
theorem dL_law_374 : decode cL_law 374 = .ok (.iadd, 1) := by decide +kernel
theorem dL_law_375 : decode cL_law 375 = .ok (.iaload, 1) := by decide +kernel
theorem dL_law_376 : decode cL_law 376 = .ok (.invokevirtual 43, 3) := by decide +kernel
theorem dL_law_379 : decode cL_law 379 = .ok (.istore 6, 2) := by decide +kernel
theorem dL_law_381 : decode cL_law 381 = .ok (.goto 963, 3) := by decide +kernel
theorem dL_law_384 : decode cL_law 384 = .ok (.aload_n 1, 1) := by decide +kernel
theorem dL_law_385 : decode cL_law 385 = .ok (.aload_n 0, 1) := by decide +kernel
theorem dL_law_386 : decode cL_law 386 = .ok (.iload 4, 2) := by decide +kernel
theorem dL_law_388 : decode cL_law 388 = .ok (.iconst 1, 1) := by decide +kernel
theorem dL_law_389 : decode cL_law 389 = .ok (.iadd, 1) := by decide +kernel
theorem dL_law_390 : decode cL_law 390 = .ok (.iaload, 1) := by decide +kernel
theorem dL_law_391 : decode cL_law 391 = .ok (.aload_n 0, 1) := by decide +kernel
theorem dL_law_392 : decode cL_law 392 = .ok (.iload 4, 2) := by decide +kernel
theorem dL_law_394 : decode cL_law 394 = .ok (.iconst 2, 1) := by decide +kernel
theorem dL_law_395 : decode cL_law 395 = .ok (.iadd, 1) := by decide +kernel
theorem dL_law_396 : decode cL_law 396 = .ok (.iaload, 1) := by decide +kernel
theorem dL_law_397 : decode cL_law 397 = .ok (.invokevirtual 44, 3) := by decide +kernel
theorem dL_law_400 : decode cL_law 400 = .ok (.pop, 1) := by decide +kernel
theorem dL_law_401 : decode cL_law 401 = .ok (.aload_n 2, 1) := by decide +kernel
theorem dL_law_402 : decode cL_law 402 = .ok (.aload_n 0, 1) := by decide +kernel
theorem dL_law_403 : decode cL_law 403 = .ok (.iload 4, 2) := by decide +kernel
theorem dL_law_405 : decode cL_law 405 = .ok (.iconst 1, 1) := by decide +kernel
theorem dL_law_406 : decode cL_law 406 = .ok (.iadd, 1) := by decide +kernel
theorem dL_law_407 : decode cL_law 407 = .ok (.iaload, 1) := by decide +kernel
theorem dL_law_408 : decode cL_law 408 = .ok (.aload_n 0, 1) := by decide +kernel
theorem dL_law_409 : decode cL_law 409 = .ok (.iload 4, 2) := by decide +kernel
theorem dL_law_411 : decode cL_law 411 = .ok (.iconst 2, 1) := by decide +kernel
theorem dL_law_412 : decode cL_law 412 = .ok (.iadd, 1) := by decide +kernel
theorem dL_law_413 : decode cL_law 413 = .ok (.iaload, 1) := by decide +kernel
theorem dL_law_414 : decode cL_law 414 = .ok (.invokevirtual 47, 3) := by decide +kernel
theorem dL_law_417 : decode cL_law 417 = .ok (.pop, 1) := by decide +kernel
theorem dL_law_418 : decode cL_law 418 = .ok (.goto 926, 3) := by decide +kernel
theorem dL_law_421 : decode cL_law 421 = .ok (.aload_n 1, 1) := by decide +kernel
theorem dL_law_422 : decode cL_law 422 = .ok (.aload_n 0, 1) := by decide +kernel
theorem dL_law_423 : decode cL_law 423 = .ok (.iload 4, 2) := by decide +kernel
theorem dL_law_425 : decode cL_law 425 = .ok (.iconst 1, 1) := by decide +kernel
theorem dL_law_426 : decode cL_law 426 = .ok (.iadd, 1) := by decide +kernel
theorem dL_law_427 : decode cL_law 427 = .ok (.iaload, 1) := by decide +kernel
theorem dL_law_428 : decode cL_law 428 = .ok (.aload_n 0, 1) := by decide +kernel
theorem dL_law_429 : decode cL_law 429 = .ok (.iload 4, 2) := by decide +kernel
theorem dL_law_431 : decode cL_law 431 = .ok (.iconst 2, 1) := by decide +kernel
theorem dL_law_432 : decode cL_law 432 = .ok (.iadd, 1) := by decide +kernel
theorem dL_law_433 : decode cL_law 433 = .ok (.iaload, 1) := by decide +kernel
theorem dL_law_434 : decode cL_law 434 = .ok (.invokevirtual 48, 3) := by decide +kernel
theorem dL_law_437 : decode cL_law 437 = .ok (.pop, 1) := by decide +kernel
theorem dL_law_438 : decode cL_law 438 = .ok (.aload_n 2, 1) := by decide +kernel
theorem dL_law_439 : decode cL_law 439 = .ok (.aload_n 0, 1) := by decide +kernel
theorem dL_law_440 : decode cL_law 440 = .ok (.iload 4, 2) := by decide +kernel
theorem dL_law_442 : decode cL_law 442 = .ok (.iconst 1, 1) := by decide +kernel
theorem dL_law_443 : decode cL_law 443 = .ok (.iadd, 1) := by decide +kernel
theorem dL_law_444 : decode cL_law 444 = .ok (.iaload, 1) := by decide +kernel
theorem dL_law_445 : decode cL_law 445 = .ok (.aload_n 0, 1) := by decide +kernel
theorem dL_law_446 : decode cL_law 446 = .ok (.iload 4, 2) := by decide +kernel
theorem dL_law_448 : decode cL_law 448 = .ok (.iconst 2, 1) := by decide +kernel
theorem dL_law_449 : decode cL_law 449 = .ok (.iadd, 1) := by decide +kernel
theorem dL_law_450 : decode cL_law 450 = .ok (.iaload, 1) := by decide +kernel
theorem dL_law_451 : decode cL_law 451 = .ok (.invokevirtual 51, 3) := by decide +kernel
theorem dL_law_454 : decode cL_law 454 = .ok (.pop, 1) := by decide +kernel
theorem dL_law_455 : decode cL_law 455 = .ok (.goto 889, 3) := by decide +kernel
theorem dL_law_458 : decode cL_law 458 = .ok (.aload_n 1, 1) := by decide +kernel
theorem dL_law_459 : decode cL_law 459 = .ok (.aload_n 0, 1) := by decide +kernel
theorem dL_law_460 : decode cL_law 460 = .ok (.iload 4, 2) := by decide +kernel
theorem dL_law_462 : decode cL_law 462 = .ok (.iconst 1, 1) := by decide +kernel
theorem dL_law_463 : decode cL_law 463 = .ok (.iadd, 1) := by decide +kernel
theorem dL_law_464 : decode cL_law 464 = .ok (.iaload, 1) := by decide +kernel
theorem dL_law_465 : decode cL_law 465 = .ok (.invokevirtual 52, 3) := by decide +kernel
theorem dL_law_468 : decode cL_law 468 = .ok (.pop, 1) := by decide +kernel
theorem dL_law_469 : decode cL_law 469 = .ok (.aload_n 2, 1) := by decide +kernel
theorem dL_law_470 : decode cL_law 470 = .ok (.aload_n 0, 1) := by decide +kernel
theorem dL_law_471 : decode cL_law 471 = .ok (.iload 4, 2) := by decide +kernel
theorem dL_law_473 : decode cL_law 473 = .ok (.iconst 1, 1) := by decide +kernel
theorem dL_law_474 : decode cL_law 474 = .ok (.iadd, 1) := by decide +kernel
theorem dL_law_475 : decode cL_law 475 = .ok (.iaload, 1) := by decide +kernel
theorem dL_law_476 : decode cL_law 476 = .ok (.invokevirtual 56, 3) := by decide +kernel
theorem dL_law_479 : decode cL_law 479 = .ok (.pop, 1) := by decide +kernel
theorem dL_law_480 : decode cL_law 480 = .ok (.goto 864, 3) := by decide +kernel
theorem dL_law_483 : decode cL_law 483 = .ok (.aload_n 1, 1) := by decide +kernel
theorem dL_law_484 : decode cL_law 484 = .ok (.aload_n 0, 1) := by decide +kernel
theorem dL_law_485 : decode cL_law 485 = .ok (.iload 4, 2) := by decide +kernel
theorem dL_law_487 : decode cL_law 487 = .ok (.iconst 1, 1) := by decide +kernel
theorem dL_law_488 : decode cL_law 488 = .ok (.iadd, 1) := by decide +kernel
theorem dL_law_489 : decode cL_law 489 = .ok (.iaload, 1) := by decide +kernel
theorem dL_law_490 : decode cL_law 490 = .ok (.aload_n 0, 1) := by decide +kernel
theorem dL_law_491 : decode cL_law 491 = .ok (.iload 4, 2) := by decide +kernel
theorem dL_law_493 : decode cL_law 493 = .ok (.iconst 2, 1) := by decide +kernel
theorem dL_law_494 : decode cL_law 494 = .ok (.iadd, 1) := by decide +kernel
theorem dL_law_495 : decode cL_law 495 = .ok (.iaload, 1) := by decide +kernel
theorem dL_law_496 : decode cL_law 496 = .ok (.aload_n 0, 1) := by decide +kernel
theorem dL_law_497 : decode cL_law 497 = .ok (.iload 4, 2) := by decide +kernel
theorem dL_law_499 : decode cL_law 499 = .ok (.iconst 3, 1) := by decide +kernel
theorem dL_law_500 : decode cL_law 500 = .ok (.iadd, 1) := by decide +kernel
theorem dL_law_501 : decode cL_law 501 = .ok (.iaload, 1) := by decide +kernel
theorem dL_law_502 : decode cL_law 502 = .ok (.invokevirtual 57, 3) := by decide +kernel
theorem dL_law_505 : decode cL_law 505 = .ok (.pop, 1) := by decide +kernel
theorem dL_law_506 : decode cL_law 506 = .ok (.aload_n 2, 1) := by decide +kernel
theorem dL_law_507 : decode cL_law 507 = .ok (.aload_n 0, 1) := by decide +kernel
theorem dL_law_508 : decode cL_law 508 = .ok (.iload 4, 2) := by decide +kernel
theorem dL_law_510 : decode cL_law 510 = .ok (.iconst 1, 1) := by decide +kernel
theorem dL_law_511 : decode cL_law 511 = .ok (.iadd, 1) := by decide +kernel
theorem dL_law_512 : decode cL_law 512 = .ok (.iaload, 1) := by decide +kernel
theorem dL_law_513 : decode cL_law 513 = .ok (.aload_n 0, 1) := by decide +kernel
theorem dL_law_514 : decode cL_law 514 = .ok (.iload 4, 2) := by decide +kernel
theorem dL_law_516 : decode cL_law 516 = .ok (.iconst 2, 1) := by decide +kernel
theorem dL_law_517 : decode cL_law 517 = .ok (.iadd, 1) := by decide +kernel
theorem dL_law_518 : decode cL_law 518 = .ok (.iaload, 1) := by decide +kernel
theorem dL_law_519 : decode cL_law 519 = .ok (.aload_n 0, 1) := by decide +kernel
theorem dL_law_520 : decode cL_law 520 = .ok (.iload 4, 2) := by decide +kernel
theorem dL_law_522 : decode cL_law 522 = .ok (.iconst 3, 1) := by decide +kernel
theorem dL_law_523 : decode cL_law 523 = .ok (.iadd, 1) := by decide +kernel
theorem dL_law_524 : decode cL_law 524 = .ok (.iaload, 1) := by decide +kernel
theorem dL_law_525 : decode cL_law 525 = .ok (.invokevirtual 61, 3) := by decide +kernel
theorem dL_law_528 : decode cL_law 528 = .ok (.pop, 1) := by decide +kernel
theorem dL_law_529 : decode cL_law 529 = .ok (.goto 815, 3) := by decide +kernel
theorem dL_law_532 : decode cL_law 532 = .ok (.aload_n 1, 1) := by decide +kernel
theorem dL_law_533 : decode cL_law 533 = .ok (.aload_n 0, 1) := by decide +kernel
theorem dL_law_534 : decode cL_law 534 = .ok (.iload 4, 2) := by decide +kernel
theorem dL_law_536 : decode cL_law 536 = .ok (.iconst 1, 1) := by decide +kernel
theorem dL_law_537 : decode cL_law 537 = .ok (.iadd, 1) := by decide +kernel
theorem dL_law_538 : decode cL_law 538 = .ok (.iaload, 1) := by decide +kernel
theorem dL_law_539 : decode cL_law 539 = .ok (.aload_n 0, 1) := by decide +kernel
theorem dL_law_540 : decode cL_law 540 = .ok (.iload 4, 2) := by decide +kernel
theorem dL_law_542 : decode cL_law 542 = .ok (.iconst 2, 1) := by decide +kernel
theorem dL_law_543 : decode cL_law 543 = .ok (.iadd, 1) := by decide +kernel
theorem dL_law_544 : decode cL_law 544 = .ok (.iaload, 1) := by decide +kernel
theorem dL_law_545 : decode cL_law 545 = .ok (.aload_n 0, 1) := by decide +kernel
theorem dL_law_546 : decode cL_law 546 = .ok (.iload 4, 2) := by decide +kernel
theorem dL_law_548 : decode cL_law 548 = .ok (.iconst 3, 1) := by decide +kernel
theorem dL_law_549 : decode cL_law 549 = .ok (.iadd, 1) := by decide +kernel
theorem dL_law_550 : decode cL_law 550 = .ok (.iaload, 1) := by decide +kernel
theorem dL_law_551 : decode cL_law 551 = .ok (.invokevirtual 62, 3) := by decide +kernel
theorem dL_law_554 : decode cL_law 554 = .ok (.pop, 1) := by decide +kernel
theorem dL_law_555 : decode cL_law 555 = .ok (.aload_n 2, 1) := by decide +kernel
theorem dL_law_556 : decode cL_law 556 = .ok (.aload_n 0, 1) := by decide +kernel
theorem dL_law_557 : decode cL_law 557 = .ok (.iload 4, 2) := by decide +kernel
theorem dL_law_559 : decode cL_law 559 = .ok (.iconst 1, 1) := by decide +kernel
theorem dL_law_560 : decode cL_law 560 = .ok (.iadd, 1) := by decide +kernel
theorem dL_law_561 : decode cL_law 561 = .ok (.iaload, 1) := by decide +kernel
theorem dL_law_562 : decode cL_law 562 = .ok (.aload_n 0, 1) := by decide +kernel
theorem dL_law_563 : decode cL_law 563 = .ok (.iload 4, 2) := by decide +kernel
theorem dL_law_565 : decode cL_law 565 = .ok (.iconst 2, 1) := by decide +kernel
theorem dL_law_566 : decode cL_law 566 = .ok (.iadd, 1) := by decide +kernel
theorem dL_law_567 : decode cL_law 567 = .ok (.iaload, 1) := by decide +kernel
theorem dL_law_568 : decode cL_law 568 = .ok (.aload_n 0, 1) := by decide +kernel
theorem dL_law_569 : decode cL_law 569 = .ok (.iload 4, 2) := by decide +kernel
theorem dL_law_571 : decode cL_law 571 = .ok (.iconst 3, 1) := by decide +kernel
theorem dL_law_572 : decode cL_law 572 = .ok (.iadd, 1) := by decide +kernel
theorem dL_law_573 : decode cL_law 573 = .ok (.iaload, 1) := by decide +kernel
theorem dL_law_574 : decode cL_law 574 = .ok (.invokevirtual 65, 3) := by decide +kernel
theorem dL_law_577 : decode cL_law 577 = .ok (.pop, 1) := by decide +kernel
theorem dL_law_578 : decode cL_law 578 = .ok (.goto 766, 3) := by decide +kernel
theorem dL_law_581 : decode cL_law 581 = .ok (.aload_n 1, 1) := by decide +kernel
theorem dL_law_582 : decode cL_law 582 = .ok (.aload_n 0, 1) := by decide +kernel
theorem dL_law_583 : decode cL_law 583 = .ok (.iload 4, 2) := by decide +kernel
theorem dL_law_585 : decode cL_law 585 = .ok (.iconst 1, 1) := by decide +kernel
theorem dL_law_586 : decode cL_law 586 = .ok (.iadd, 1) := by decide +kernel
theorem dL_law_587 : decode cL_law 587 = .ok (.iaload, 1) := by decide +kernel
theorem dL_law_588 : decode cL_law 588 = .ok (.invokevirtual 66, 3) := by decide +kernel
theorem dL_law_591 : decode cL_law 591 = .ok (.pop, 1) := by decide +kernel
theorem dL_law_592 : decode cL_law 592 = .ok (.aload_n 2, 1) := by decide +kernel
theorem dL_law_593 : decode cL_law 593 = .ok (.aload_n 0, 1) := by decide +kernel
theorem dL_law_594 : decode cL_law 594 = .ok (.iload 4, 2) := by decide +kernel
theorem dL_law_596 : decode cL_law 596 = .ok (.iconst 1, 1) := by decide +kernel
theorem dL_law_597 : decode cL_law 597 = .ok (.iadd, 1) := by decide +kernel
theorem dL_law_598 : decode cL_law 598 = .ok (.iaload, 1) := by decide +kernel
theorem dL_law_599 : decode cL_law 599 = .ok (.invokevirtual 69, 3) := by decide +kernel
theorem dL_law_602 : decode cL_law 602 = .ok (.pop, 1) := by decide +kernel
theorem dL_law_603 : decode cL_law 603 = .ok (.goto 741, 3) := by decide +kernel
theorem dL_law_606 : decode cL_law 606 = .ok (.aload_n 1, 1) := by decide +kernel
theorem dL_law_607 : decode cL_law 607 = .ok (.aload_n 0, 1) := by decide +kernel
theorem dL_law_608 : decode cL_law 608 = .ok (.iload 4, 2) := by decide +kernel
theorem dL_law_610 : decode cL_law 610 = .ok (.iconst 1, 1) := by decide +kernel
theorem dL_law_611 : decode cL_law 611 = .ok (.iadd, 1) := by decide +kernel
theorem dL_law_612 : decode cL_law 612 = .ok (.iaload, 1) := by decide +kernel
theorem dL_law_613 : decode cL_law 613 = .ok (.invokevirtual 70, 3) := by decide +kernel
theorem dL_law_616 : decode cL_law 616 = .ok (.pop, 1) := by decide +kernel
theorem dL_law_617 : decode cL_law 617 = .ok (.aload_n 2, 1) := by decide +kernel
theorem dL_law_618 : decode cL_law 618 = .ok (.aload_n 0, 1) := by decide +kernel
theorem dL_law_619 : decode cL_law 619 = .ok (.iload 4, 2) := by decide +kernel
theorem dL_law_621 : decode cL_law 621 = .ok (.iconst 1, 1) := by decide +kernel
theorem dL_law_622 : decode cL_law 622 = .ok (.iadd, 1) := by decide +kernel
theorem dL_law_623 : decode cL_law 623 = .ok (.iaload, 1) := by decide +kernel
theorem dL_law_624 : decode cL_law 624 = .ok (.invokevirtual 73, 3) := by decide +kernel
theorem dL_law_627 : decode cL_law 627 = .ok (.pop, 1) := by decide +kernel
theorem dL_law_628 : decode cL_law 628 = .ok (.goto 716, 3) := by decide +kernel
theorem dL_law_631 : decode cL_law 631 = .ok (.aload_n 1, 1) := by decide +kernel
theorem dL_law_632 : decode cL_law 632 = .ok (.aload_n 0, 1) := by decide +kernel
theorem dL_law_633 : decode cL_law 633 = .ok (.iload 4, 2) := by decide +kernel
theorem dL_law_635 : decode cL_law 635 = .ok (.iconst 1, 1) := by decide +kernel
theorem dL_law_636 : decode cL_law 636 = .ok (.iadd, 1) := by decide +kernel
theorem dL_law_637 : decode cL_law 637 = .ok (.iaload, 1) := by decide +kernel
theorem dL_law_638 : decode cL_law 638 = .ok (.invokevirtual 74, 3) := by decide +kernel
theorem dL_law_641 : decode cL_law 641 = .ok (.pop, 1) := by decide +kernel
theorem dL_law_642 : decode cL_law 642 = .ok (.aload_n 2, 1) := by decide +kernel
theorem dL_law_643 : decode cL_law 643 = .ok (.aload_n 0, 1) := by decide +kernel
theorem dL_law_644 : decode cL_law 644 = .ok (.iload 4, 2) := by decide +kernel
theorem dL_law_646 : decode cL_law 646 = .ok (.iconst 1, 1) := by decide +kernel
theorem dL_law_647 : decode cL_law 647 = .ok (.iadd, 1) := by decide +kernel
theorem dL_law_648 : decode cL_law 648 = .ok (.iaload, 1) := by decide +kernel
theorem dL_law_649 : decode cL_law 649 = .ok (.invokevirtual 77, 3) := by decide +kernel
theorem dL_law_652 : decode cL_law 652 = .ok (.pop, 1) := by decide +kernel
theorem dL_law_653 : decode cL_law 653 = .ok (.goto 691, 3) := by decide +kernel
theorem dL_law_656 : decode cL_law 656 = .ok (.aload_n 1, 1) := by decide +kernel
theorem dL_law_657 : decode cL_law 657 = .ok (.aload_n 0, 1) := by decide +kernel
theorem dL_law_658 : decode cL_law 658 = .ok (.iload 4, 2) := by decide +kernel
theorem dL_law_660 : decode cL_law 660 = .ok (.iconst 1, 1) := by decide +kernel
theorem dL_law_661 : decode cL_law 661 = .ok (.iadd, 1) := by decide +kernel
theorem dL_law_662 : decode cL_law 662 = .ok (.iaload, 1) := by decide +kernel
theorem dL_law_663 : decode cL_law 663 = .ok (.invokevirtual 78, 3) := by decide +kernel
theorem dL_law_666 : decode cL_law 666 = .ok (.pop, 1) := by decide +kernel
theorem dL_law_667 : decode cL_law 667 = .ok (.aload_n 2, 1) := by decide +kernel
theorem dL_law_668 : decode cL_law 668 = .ok (.aload_n 0, 1) := by decide +kernel
theorem dL_law_669 : decode cL_law 669 = .ok (.iload 4, 2) := by decide +kernel
theorem dL_law_671 : decode cL_law 671 = .ok (.iconst 1, 1) := by decide +kernel
theorem dL_law_672 : decode cL_law 672 = .ok (.iadd, 1) := by decide +kernel
theorem dL_law_673 : decode cL_law 673 = .ok (.iaload, 1) := by decide +kernel
theorem dL_law_674 : decode cL_law 674 = .ok (.invokevirtual 81, 3) := by decide +kernel
theorem dL_law_677 : decode cL_law 677 = .ok (.pop, 1) := by decide +kernel
theorem dL_law_678 : decode cL_law 678 = .ok (.goto 666, 3) := by decide +kernel
theorem dL_law_681 : decode cL_law 681 = .ok (.aload_n 1, 1) := by decide +kernel
theorem dL_law_682 : decode cL_law 682 = .ok (.aload_n 0, 1) := by decide +kernel
theorem dL_law_683 : decode cL_law 683 = .ok (.iload 4, 2) := by decide +kernel
theorem dL_law_685 : decode cL_law 685 = .ok (.iconst 1, 1) := by decide +kernel
theorem dL_law_686 : decode cL_law 686 = .ok (.iadd, 1) := by decide +kernel
theorem dL_law_687 : decode cL_law 687 = .ok (.iaload, 1) := by decide +kernel
theorem dL_law_688 : decode cL_law 688 = .ok (.invokevirtual 82, 3) := by decide +kernel
theorem dL_law_691 : decode cL_law 691 = .ok (.pop, 1) := by decide +kernel
theorem dL_law_692 : decode cL_law 692 = .ok (.aload_n 2, 1) := by decide +kernel
theorem dL_law_693 : decode cL_law 693 = .ok (.aload_n 0, 1) := by decide +kernel
theorem dL_law_694 : decode cL_law 694 = .ok (.iload 4, 2) := by decide +kernel
theorem dL_law_696 : decode cL_law 696 = .ok (.iconst 1, 1) := by decide +kernel
theorem dL_law_697 : decode cL_law 697 = .ok (.iadd, 1) := by decide +kernel
theorem dL_law_698 : decode cL_law 698 = .ok (.iaload, 1) := by decide +kernel
theorem dL_law_699 : decode cL_law 699 = .ok (.invokevirtual 85, 3) := by decide +kernel
theorem dL_law_702 : decode cL_law 702 = .ok (.pop, 1) := by decide +kernel
theorem dL_law_703 : decode cL_law 703 = .ok (.goto 641, 3) := by decide +kernel
theorem dL_law_706 : decode cL_law 706 = .ok (.aload_n 1, 1) := by decide +kernel
theorem dL_law_707 : decode cL_law 707 = .ok (.invokevirtual 86, 3) := by decide +kernel
theorem dL_law_710 : decode cL_law 710 = .ok (.pop, 1) := by decide +kernel
theorem dL_law_711 : decode cL_law 711 = .ok (.aload_n 2, 1) := by decide +kernel
theorem dL_law_712 : decode cL_law 712 = .ok (.invokevirtual 89, 3) := by decide +kernel
theorem dL_law_715 : decode cL_law 715 = .ok (.pop, 1) := by decide +kernel
theorem dL_law_716 : decode cL_law 716 = .ok (.goto 628, 3) := by decide +kernel
theorem dL_law_719 : decode cL_law 719 = .ok (.aload_n 1, 1) := by decide +kernel
theorem dL_law_720 : decode cL_law 720 = .ok (.aload_n 0, 1) := by decide +kernel
theorem dL_law_721 : decode cL_law 721 = .ok (.iload 4, 2) := by decide +kernel
theorem dL_law_723 : decode cL_law 723 = .ok (.iconst 1, 1) := by decide +kernel
theorem dL_law_724 : decode cL_law 724 = .ok (.iadd, 1) := by decide +kernel
theorem dL_law_725 : decode cL_law 725 = .ok (.iaload, 1) := by decide +kernel
theorem dL_law_726 : decode cL_law 726 = .ok (.invokevirtual 90, 3) := by decide +kernel
theorem dL_law_729 : decode cL_law 729 = .ok (.pop, 1) := by decide +kernel
theorem dL_law_730 : decode cL_law 730 = .ok (.aload_n 2, 1) := by decide +kernel
theorem dL_law_731 : decode cL_law 731 = .ok (.aload_n 0, 1) := by decide +kernel
theorem dL_law_732 : decode cL_law 732 = .ok (.iload 4, 2) := by decide +kernel
theorem dL_law_734 : decode cL_law 734 = .ok (.iconst 1, 1) := by decide +kernel
theorem dL_law_735 : decode cL_law 735 = .ok (.iadd, 1) := by decide +kernel
theorem dL_law_736 : decode cL_law 736 = .ok (.iaload, 1) := by decide +kernel
theorem dL_law_737 : decode cL_law 737 = .ok (.invokevirtual 93, 3) := by decide +kernel
theorem dL_law_740 : decode cL_law 740 = .ok (.pop, 1) := by decide +kernel
theorem dL_law_741 : decode cL_law 741 = .ok (.goto 603, 3) := by decide +kernel
theorem dL_law_744 : decode cL_law 744 = .ok (.aload_n 1, 1) := by decide +kernel
theorem dL_law_745 : decode cL_law 745 = .ok (.aload_n 0, 1) := by decide +kernel
theorem dL_law_746 : decode cL_law 746 = .ok (.iload 4, 2) := by decide +kernel
theorem dL_law_748 : decode cL_law 748 = .ok (.iconst 1, 1) := by decide +kernel
theorem dL_law_749 : decode cL_law 749 = .ok (.iadd, 1) := by decide +kernel
theorem dL_law_750 : decode cL_law 750 = .ok (.iaload, 1) := by decide +kernel
theorem dL_law_751 : decode cL_law 751 = .ok (.aload_n 0, 1) := by decide +kernel
theorem dL_law_752 : decode cL_law 752 = .ok (.iload 4, 2) := by decide +kernel
theorem dL_law_754 : decode cL_law 754 = .ok (.iconst 2, 1) := by decide +kernel
theorem dL_law_755 : decode cL_law 755 = .ok (.iadd, 1) := by decide +kernel
theorem dL_law_756 : decode cL_law 756 = .ok (.iaload, 1) := by decide +kernel
theorem dL_law_757 : decode cL_law 757 = .ok (.invokevirtual 94, 3) := by decide +kernel
theorem dL_law_760 : decode cL_law 760 = .ok (.pop, 1) := by decide +kernel
theorem dL_law_761 : decode cL_law 761 = .ok (.aload_n 2, 1) := by decide +kernel
theorem dL_law_762 : decode cL_law 762 = .ok (.aload_n 0, 1) := by decide +kernel
theorem dL_law_763 : decode cL_law 763 = .ok (.iload 4, 2) := by decide +kernel
theorem dL_law_765 : decode cL_law 765 = .ok (.iconst 1, 1) := by decide +kernel
theorem dL_law_766 : decode cL_law 766 = .ok (.iadd, 1) := by decide +kernel
theorem dL_law_767 : decode cL_law 767 = .ok (.iaload, 1) := by decide +kernel
theorem dL_law_768 : decode cL_law 768 = .ok (.aload_n 0, 1) := by decide +kernel
theorem dL_law_769 : decode cL_law 769 = .ok (.iload 4, 2) := by decide +kernel
theorem dL_law_771 : decode cL_law 771 = .ok (.iconst 2, 1) := by decide +kernel
theorem dL_law_772 : decode cL_law 772 = .ok (.iadd, 1) := by decide +kernel
theorem dL_law_773 : decode cL_law 773 = .ok (.iaload, 1) := by decide +kernel
theorem dL_law_774 : decode cL_law 774 = .ok (.invokevirtual 97, 3) := by decide +kernel
theorem dL_law_777 : decode cL_law 777 = .ok (.pop, 1) := by decide +kernel
theorem dL_law_778 : decode cL_law 778 = .ok (.goto 566, 3) := by decide +kernel
theorem dL_law_781 : decode cL_law 781 = .ok (.aload_n 1, 1) := by decide +kernel
theorem dL_law_782 : decode cL_law 782 = .ok (.invokevirtual 98, 3) := by decide +kernel
theorem dL_law_785 : decode cL_law 785 = .ok (.pop, 1) := by decide +kernel
theorem dL_law_786 : decode cL_law 786 = .ok (.aload_n 2, 1) := by decide +kernel
theorem dL_law_787 : decode cL_law 787 = .ok (.invokevirtual 101, 3) := by decide +kernel
theorem dL_law_790 : decode cL_law 790 = .ok (.pop, 1) := by decide +kernel
theorem dL_law_791 : decode cL_law 791 = .ok (.goto 553, 3) := by decide +kernel
theorem dL_law_794 : decode cL_law 794 = .ok (.aload_n 1, 1) := by decide +kernel
theorem dL_law_795 : decode cL_law 795 = .ok (.aload_n 0, 1) := by decide +kernel
theorem dL_law_796 : decode cL_law 796 = .ok (.iload 4, 2) := by decide +kernel
theorem dL_law_798 : decode cL_law 798 = .ok (.iconst 1, 1) := by decide +kernel
theorem dL_law_799 : decode cL_law 799 = .ok (.iadd, 1) := by decide +kernel
theorem dL_law_800 : decode cL_law 800 = .ok (.iaload, 1) := by decide +kernel
theorem dL_law_801 : decode cL_law 801 = .ok (.invokevirtual 102, 3) := by decide +kernel
theorem dL_law_804 : decode cL_law 804 = .ok (.pop, 1) := by decide +kernel
theorem dL_law_805 : decode cL_law 805 = .ok (.aload_n 2, 1) := by decide +kernel
theorem dL_law_806 : decode cL_law 806 = .ok (.aload_n 0, 1) := by decide +kernel
theorem dL_law_807 : decode cL_law 807 = .ok (.iload 4, 2) := by decide +kernel
theorem dL_law_809 : decode cL_law 809 = .ok (.iconst 1, 1) := by decide +kernel
theorem dL_law_810 : decode cL_law 810 = .ok (.iadd, 1) := by decide +kernel
theorem dL_law_811 : decode cL_law 811 = .ok (.iaload, 1) := by decide +kernel
theorem dL_law_812 : decode cL_law 812 = .ok (.invokevirtual 105, 3) := by decide +kernel
theorem dL_law_815 : decode cL_law 815 = .ok (.pop, 1) := by decide +kernel
theorem dL_law_816 : decode cL_law 816 = .ok (.goto 528, 3) := by decide +kernel
theorem dL_law_819 : decode cL_law 819 = .ok (.aload_n 1, 1) := by decide +kernel
theorem dL_law_820 : decode cL_law 820 = .ok (.invokevirtual 106, 3) := by decide +kernel
theorem dL_law_823 : decode cL_law 823 = .ok (.pop, 1) := by decide +kernel
theorem dL_law_824 : decode cL_law 824 = .ok (.aload_n 2, 1) := by decide +kernel
theorem dL_law_825 : decode cL_law 825 = .ok (.invokevirtual 109, 3) := by decide +kernel
theorem dL_law_828 : decode cL_law 828 = .ok (.pop, 1) := by decide +kernel
theorem dL_law_829 : decode cL_law 829 = .ok (.goto 515, 3) := by decide +kernel
theorem dL_law_832 : decode cL_law 832 = .ok (.aload_n 1, 1) := by decide +kernel
theorem dL_law_833 : decode cL_law 833 = .ok (.invokevirtual 110, 3) := by decide +kernel
theorem dL_law_836 : decode cL_law 836 = .ok (.pop, 1) := by decide +kernel
theorem dL_law_837 : decode cL_law 837 = .ok (.aload_n 2, 1) := by decide +kernel
theorem dL_law_838 : decode cL_law 838 = .ok (.invokevirtual 113, 3) := by decide +kernel
theorem dL_law_841 : decode cL_law 841 = .ok (.pop, 1) := by decide +kernel
theorem dL_law_842 : decode cL_law 842 = .ok (.goto 502, 3) := by decide +kernel
theorem dL_law_845 : decode cL_law 845 = .ok (.aload_n 1, 1) := by decide +kernel
theorem dL_law_846 : decode cL_law 846 = .ok (.invokevirtual 114, 3) := by decide +kernel
theorem dL_law_849 : decode cL_law 849 = .ok (.pop, 1) := by decide +kernel
theorem dL_law_850 : decode cL_law 850 = .ok (.aload_n 2, 1) := by decide +kernel
theorem dL_law_851 : decode cL_law 851 = .ok (.invokevirtual 117, 3) := by decide +kernel
theorem dL_law_854 : decode cL_law 854 = .ok (.pop, 1) := by decide +kernel
theorem dL_law_855 : decode cL_law 855 = .ok (.goto 489, 3) := by decide +kernel
theorem dL_law_858 : decode cL_law 858 = .ok (.aload_n 1, 1) := by decide +kernel
theorem dL_law_859 : decode cL_law 859 = .ok (.aload_n 0, 1) := by decide +kernel
theorem dL_law_860 : decode cL_law 860 = .ok (.iload 4, 2) := by decide +kernel
theorem dL_law_862 : decode cL_law 862 = .ok (.iconst 1, 1) := by decide +kernel
theorem dL_law_863 : decode cL_law 863 = .ok (.iadd, 1) := by decide +kernel
theorem dL_law_864 : decode cL_law 864 = .ok (.iaload, 1) := by decide +kernel
theorem dL_law_865 : decode cL_law 865 = .ok (.aload_n 0, 1) := by decide +kernel
theorem dL_law_866 : decode cL_law 866 = .ok (.iload 4, 2) := by decide +kernel
theorem dL_law_868 : decode cL_law 868 = .ok (.iconst 2, 1) := by decide +kernel
theorem dL_law_869 : decode cL_law 869 = .ok (.iadd, 1) := by decide +kernel
theorem dL_law_870 : decode cL_law 870 = .ok (.iaload, 1) := by decide +kernel
theorem dL_law_871 : decode cL_law 871 = .ok (.aload_n 0, 1) := by decide +kernel
theorem dL_law_872 : decode cL_law 872 = .ok (.iload 4, 2) := by decide +kernel
theorem dL_law_874 : decode cL_law 874 = .ok (.iconst 3, 1) := by decide +kernel
theorem dL_law_875 : decode cL_law 875 = .ok (.iadd, 1) := by decide +kernel
theorem dL_law_876 : decode cL_law 876 = .ok (.iaload, 1) := by decide +kernel
theorem dL_law_877 : decode cL_law 877 = .ok (.invokevirtual 118, 3) := by decide +kernel
theorem dL_law_880 : decode cL_law 880 = .ok (.pop, 1) := by decide +kernel
theorem dL_law_881 : decode cL_law 881 = .ok (.aload_n 2, 1) := by decide +kernel
theorem dL_law_882 : decode cL_law 882 = .ok (.aload_n 0, 1) := by decide +kernel
theorem dL_law_883 : decode cL_law 883 = .ok (.iload 4, 2) := by decide +kernel
theorem dL_law_885 : decode cL_law 885 = .ok (.iconst 1, 1) := by decide +kernel
theorem dL_law_886 : decode cL_law 886 = .ok (.iadd, 1) := by decide +kernel
theorem dL_law_887 : decode cL_law 887 = .ok (.iaload, 1) := by decide +kernel
theorem dL_law_888 : decode cL_law 888 = .ok (.aload_n 0, 1) := by decide +kernel
theorem dL_law_889 : decode cL_law 889 = .ok (.iload 4, 2) := by decide +kernel
theorem dL_law_891 : decode cL_law 891 = .ok (.iconst 2, 1) := by decide +kernel
theorem dL_law_892 : decode cL_law 892 = .ok (.iadd, 1) := by decide +kernel
theorem dL_law_893 : decode cL_law 893 = .ok (.iaload, 1) := by decide +kernel
theorem dL_law_894 : decode cL_law 894 = .ok (.aload_n 0, 1) := by decide +kernel
theorem dL_law_895 : decode cL_law 895 = .ok (.iload 4, 2) := by decide +kernel
theorem dL_law_897 : decode cL_law 897 = .ok (.iconst 3, 1) := by decide +kernel
theorem dL_law_898 : decode cL_law 898 = .ok (.iadd, 1) := by decide +kernel
theorem dL_law_899 : decode cL_law 899 = .ok (.iaload, 1) := by decide +kernel
theorem dL_law_900 : decode cL_law 900 = .ok (.invokevirtual 121, 3) := by decide +kernel
theorem dL_law_903 : decode cL_law 903 = .ok (.pop, 1) := by decide +kernel
theorem dL_law_904 : decode cL_law 904 = .ok (.goto 440, 3) := by decide +kernel
theorem dL_law_907 : decode cL_law 907 = .ok (.aload_n 1, 1) := by decide +kernel
theorem dL_law_908 : decode cL_law 908 = .ok (.aload_n 0, 1) := by decide +kernel
theorem dL_law_909 : decode cL_law 909 = .ok (.iload 4, 2) := by decide +kernel
theorem dL_law_911 : decode cL_law 911 = .ok (.iconst 1, 1) := by decide +kernel
theorem dL_law_912 : decode cL_law 912 = .ok (.iadd, 1) := by decide +kernel
theorem dL_law_913 : decode cL_law 913 = .ok (.iaload, 1) := by decide +kernel
theorem dL_law_914 : decode cL_law 914 = .ok (.invokevirtual 122, 3) := by decide +kernel
theorem dL_law_917 : decode cL_law 917 = .ok (.pop, 1) := by decide +kernel
theorem dL_law_918 : decode cL_law 918 = .ok (.aload_n 2, 1) := by decide +kernel
theorem dL_law_919 : decode cL_law 919 = .ok (.aload_n 0, 1) := by decide +kernel
theorem dL_law_920 : decode cL_law 920 = .ok (.iload 4, 2) := by decide +kernel
theorem dL_law_922 : decode cL_law 922 = .ok (.iconst 1, 1) := by decide +kernel
theorem dL_law_923 : decode cL_law 923 = .ok (.iadd, 1) := by decide +kernel
theorem dL_law_924 : decode cL_law 924 = .ok (.iaload, 1) := by decide +kernel
theorem dL_law_925 : decode cL_law 925 = .ok (.invokevirtual 125, 3) := by decide +kernel
theorem dL_law_928 : decode cL_law 928 = .ok (.pop, 1) := by decide +kernel
theorem dL_law_929 : decode cL_law 929 = .ok (.goto 415, 3) := by decide +kernel
theorem dL_law_932 : decode cL_law 932 = .ok (.aload_n 1, 1) := by decide +kernel
theorem dL_law_933 : decode cL_law 933 = .ok (.invokevirtual 126, 3) := by decide +kernel
theorem dL_law_936 : decode cL_law 936 = .ok (.pop, 1) := by decide +kernel
theorem dL_law_937 : decode cL_law 937 = .ok (.aload_n 2, 1) := by decide +kernel
theorem dL_law_938 : decode cL_law 938 = .ok (.invokevirtual 129, 3) := by decide +kernel
theorem dL_law_941 : decode cL_law 941 = .ok (.pop, 1) := by decide +kernel
theorem dL_law_942 : decode cL_law 942 = .ok (.goto 402, 3) := by decide +kernel
theorem dL_law_945 : decode cL_law 945 = .ok (.aload_n 1, 1) := by decide +kernel
theorem dL_law_946 : decode cL_law 946 = .ok (.aload_n 0, 1) := by decide +kernel
theorem dL_law_947 : decode cL_law 947 = .ok (.iload 4, 2) := by decide +kernel
theorem dL_law_949 : decode cL_law 949 = .ok (.iconst 1, 1) := by decide +kernel
theorem dL_law_950 : decode cL_law 950 = .ok (.iadd, 1) := by decide +kernel
theorem dL_law_951 : decode cL_law 951 = .ok (.iaload, 1) := by decide +kernel
theorem dL_law_952 : decode cL_law 952 = .ok (.invokevirtual 130, 3) := by decide +kernel
theorem dL_law_955 : decode cL_law 955 = .ok (.pop, 1) := by decide +kernel
theorem dL_law_956 : decode cL_law 956 = .ok (.aload_n 2, 1) := by decide +kernel
theorem dL_law_957 : decode cL_law 957 = .ok (.aload_n 0, 1) := by decide +kernel
theorem dL_law_958 : decode cL_law 958 = .ok (.iload 4, 2) := by decide +kernel
theorem dL_law_960 : decode cL_law 960 = .ok (.iconst 1, 1) := by decide +kernel
theorem dL_law_961 : decode cL_law 961 = .ok (.iadd, 1) := by decide +kernel
theorem dL_law_962 : decode cL_law 962 = .ok (.iaload, 1) := by decide +kernel
theorem dL_law_963 : decode cL_law 963 = .ok (.invokevirtual 133, 3) := by decide +kernel
theorem dL_law_966 : decode cL_law 966 = .ok (.pop, 1) := by decide +kernel
theorem dL_law_967 : decode cL_law 967 = .ok (.goto 377, 3) := by decide +kernel
theorem dL_law_970 : decode cL_law 970 = .ok (.aload_n 1, 1) := by decide +kernel
theorem dL_law_971 : decode cL_law 971 = .ok (.aload_n 0, 1) := by decide +kernel
theorem dL_law_972 : decode cL_law 972 = .ok (.iload 4, 2) := by decide +kernel
theorem dL_law_974 : decode cL_law 974 = .ok (.iconst 1, 1) := by decide +kernel
theorem dL_law_975 : decode cL_law 975 = .ok (.iadd, 1) := by decide +kernel
theorem dL_law_976 : decode cL_law 976 = .ok (.iaload, 1) := by decide +kernel
theorem dL_law_977 : decode cL_law 977 = .ok (.invokevirtual 134, 3) := by decide +kernel
theorem dL_law_980 : decode cL_law 980 = .ok (.pop, 1) := by decide +kernel
theorem dL_law_981 : decode cL_law 981 = .ok (.aload_n 2, 1) := by decide +kernel
theorem dL_law_982 : decode cL_law 982 = .ok (.aload_n 0, 1) := by decide +kernel
theorem dL_law_983 : decode cL_law 983 = .ok (.iload 4, 2) := by decide +kernel
theorem dL_law_985 : decode cL_law 985 = .ok (.iconst 1, 1) := by decide +kernel
theorem dL_law_986 : decode cL_law 986 = .ok (.iadd, 1) := by decide +kernel
theorem dL_law_987 : decode cL_law 987 = .ok (.iaload, 1) := by decide +kernel
theorem dL_law_988 : decode cL_law 988 = .ok (.invokevirtual 137, 3) := by decide +kernel
theorem dL_law_991 : decode cL_law 991 = .ok (.pop, 1) := by decide +kernel
theorem dL_law_992 : decode cL_law 992 = .ok (.goto 352, 3) := by decide +kernel
theorem dL_law_995 : decode cL_law 995 = .ok (.aload_n 1, 1) := by decide +kernel
theorem dL_law_996 : decode cL_law 996 = .ok (.aload_n 0, 1) := by decide +kernel
theorem dL_law_997 : decode cL_law 997 = .ok (.iload 4, 2) := by decide +kernel
theorem dL_law_999 : decode cL_law 999 = .ok (.iconst 1, 1) := by decide +kernel
theorem dL_law_1000 : decode cL_law 1000 = .ok (.iadd, 1) := by decide +kernel
theorem dL_law_1001 : decode cL_law 1001 = .ok (.iaload, 1) := by decide +kernel
theorem dL_law_1002 : decode cL_law 1002 = .ok (.aload_n 0, 1) := by decide +kernel
theorem dL_law_1003 : decode cL_law 1003 = .ok (.iload 4, 2) := by decide +kernel
theorem dL_law_1005 : decode cL_law 1005 = .ok (.iconst 2, 1) := by decide +kernel
theorem dL_law_1006 : decode cL_law 1006 = .ok (.iadd, 1) := by decide +kernel
theorem dL_law_1007 : decode cL_law 1007 = .ok (.iaload, 1) := by decide +kernel
theorem dL_law_1008 : decode cL_law 1008 = .ok (.invokevirtual 138, 3) := by decide +kernel
theorem dL_law_1011 : decode cL_law 1011 = .ok (.pop, 1) := by decide +kernel
theorem dL_law_1012 : decode cL_law 1012 = .ok (.aload_n 2, 1) := by decide +kernel
theorem dL_law_1013 : decode cL_law 1013 = .ok (.aload_n 0, 1) := by decide +kernel
theorem dL_law_1014 : decode cL_law 1014 = .ok (.iload 4, 2) := by decide +kernel
theorem dL_law_1016 : decode cL_law 1016 = .ok (.iconst 1, 1) := by decide +kernel
theorem dL_law_1017 : decode cL_law 1017 = .ok (.iadd, 1) := by decide +kernel
theorem dL_law_1018 : decode cL_law 1018 = .ok (.iaload, 1) := by decide +kernel
theorem dL_law_1019 : decode cL_law 1019 = .ok (.aload_n 0, 1) := by decide +kernel
theorem dL_law_1020 : decode cL_law 1020 = .ok (.iload 4, 2) := by decide +kernel
theorem dL_law_1022 : decode cL_law 1022 = .ok (.iconst 2, 1) := by decide +kernel
theorem dL_law_1023 : decode cL_law 1023 = .ok (.iadd, 1) := by decide +kernel
theorem dL_law_1024 : decode cL_law 1024 = .ok (.iaload, 1) := by decide +kernel
theorem dL_law_1025 : decode cL_law 1025 = .ok (.invokevirtual 141, 3) := by decide +kernel
theorem dL_law_1028 : decode cL_law 1028 = .ok (.pop, 1) := by decide +kernel
theorem dL_law_1029 : decode cL_law 1029 = .ok (.goto 315, 3) := by decide +kernel
theorem dL_law_1032 : decode cL_law 1032 = .ok (.aload_n 1, 1) := by decide +kernel
theorem dL_law_1033 : decode cL_law 1033 = .ok (.invokevirtual 142, 3) := by decide +kernel
theorem dL_law_1036 : decode cL_law 1036 = .ok (.pop, 1) := by decide +kernel
theorem dL_law_1037 : decode cL_law 1037 = .ok (.aload_n 2, 1) := by decide +kernel
theorem dL_law_1038 : decode cL_law 1038 = .ok (.invokevirtual 145, 3) := by decide +kernel
theorem dL_law_1041 : decode cL_law 1041 = .ok (.pop, 1) := by decide +kernel
theorem dL_law_1042 : decode cL_law 1042 = .ok (.goto 302, 3) := by decide +kernel
theorem dL_law_1045 : decode cL_law 1045 = .ok (.aload_n 1, 1) := by decide +kernel
theorem dL_law_1046 : decode cL_law 1046 = .ok (.aload_n 0, 1) := by decide +kernel
theorem dL_law_1047 : decode cL_law 1047 = .ok (.iload 4, 2) := by decide +kernel
theorem dL_law_1049 : decode cL_law 1049 = .ok (.iconst 1, 1) := by decide +kernel
theorem dL_law_1050 : decode cL_law 1050 = .ok (.iadd, 1) := by decide +kernel
theorem dL_law_1051 : decode cL_law 1051 = .ok (.iaload, 1) := by decide +kernel
theorem dL_law_1052 : decode cL_law 1052 = .ok (.invokevirtual 146, 3) := by decide +kernel
theorem dL_law_1055 : decode cL_law 1055 = .ok (.pop, 1) := by decide +kernel
theorem dL_law_1056 : decode cL_law 1056 = .ok (.aload_n 2, 1) := by decide +kernel
theorem dL_law_1057 : decode cL_law 1057 = .ok (.aload_n 0, 1) := by decide +kernel
theorem dL_law_1058 : decode cL_law 1058 = .ok (.iload 4, 2) := by decide +kernel
theorem dL_law_1060 : decode cL_law 1060 = .ok (.iconst 1, 1) := by decide +kernel
theorem dL_law_1061 : decode cL_law 1061 = .ok (.iadd, 1) := by decide +kernel
theorem dL_law_1062 : decode cL_law 1062 = .ok (.iaload, 1) := by decide +kernel
theorem dL_law_1063 : decode cL_law 1063 = .ok (.invokevirtual 149, 3) := by decide +kernel
theorem dL_law_1066 : decode cL_law 1066 = .ok (.pop, 1) := by decide +kernel
theorem dL_law_1067 : decode cL_law 1067 = .ok (.goto 277, 3) := by decide +kernel
theorem dL_law_1070 : decode cL_law 1070 = .ok (.aload_n 1, 1) := by decide +kernel
theorem dL_law_1071 : decode cL_law 1071 = .ok (.aload_n 0, 1) := by decide +kernel
theorem dL_law_1072 : decode cL_law 1072 = .ok (.iload 4, 2) := by decide +kernel
theorem dL_law_1074 : decode cL_law 1074 = .ok (.iconst 1, 1) := by decide +kernel
theorem dL_law_1075 : decode cL_law 1075 = .ok (.iadd, 1) := by decide +kernel
theorem dL_law_1076 : decode cL_law 1076 = .ok (.iaload, 1) := by decide +kernel
theorem dL_law_1077 : decode cL_law 1077 = .ok (.invokevirtual 150, 3) := by decide +kernel
theorem dL_law_1080 : decode cL_law 1080 = .ok (.pop, 1) := by decide +kernel
theorem dL_law_1081 : decode cL_law 1081 = .ok (.aload_n 2, 1) := by decide +kernel
theorem dL_law_1082 : decode cL_law 1082 = .ok (.aload_n 0, 1) := by decide +kernel
theorem dL_law_1083 : decode cL_law 1083 = .ok (.iload 4, 2) := by decide +kernel
theorem dL_law_1085 : decode cL_law 1085 = .ok (.iconst 1, 1) := by decide +kernel
theorem dL_law_1086 : decode cL_law 1086 = .ok (.iadd, 1) := by decide +kernel
theorem dL_law_1087 : decode cL_law 1087 = .ok (.iaload, 1) := by decide +kernel
theorem dL_law_1088 : decode cL_law 1088 = .ok (.invokevirtual 153, 3) := by decide +kernel
theorem dL_law_1091 : decode cL_law 1091 = .ok (.pop, 1) := by decide +kernel
theorem dL_law_1092 : decode cL_law 1092 = .ok (.goto 252, 3) := by decide +kernel
theorem dL_law_1095 : decode cL_law 1095 = .ok (.aload_n 1, 1) := by decide +kernel
theorem dL_law_1096 : decode cL_law 1096 = .ok (.aload_n 0, 1) := by decide +kernel
theorem dL_law_1097 : decode cL_law 1097 = .ok (.iload 4, 2) := by decide +kernel
theorem dL_law_1099 : decode cL_law 1099 = .ok (.iconst 1, 1) := by decide +kernel
theorem dL_law_1100 : decode cL_law 1100 = .ok (.iadd, 1) := by decide +kernel
theorem dL_law_1101 : decode cL_law 1101 = .ok (.iaload, 1) := by decide +kernel
theorem dL_law_1102 : decode cL_law 1102 = .ok (.aload_n 0, 1) := by decide +kernel
theorem dL_law_1103 : decode cL_law 1103 = .ok (.iload 4, 2) := by decide +kernel
theorem dL_law_1105 : decode cL_law 1105 = .ok (.iconst 2, 1) := by decide +kernel
theorem dL_law_1106 : decode cL_law 1106 = .ok (.iadd, 1) := by decide +kernel
theorem dL_law_1107 : decode cL_law 1107 = .ok (.iaload, 1) := by decide +kernel
theorem dL_law_1108 : decode cL_law 1108 = .ok (.invokevirtual 154, 3) := by decide +kernel
theorem dL_law_1111 : decode cL_law 1111 = .ok (.pop, 1) := by decide +kernel
theorem dL_law_1112 : decode cL_law 1112 = .ok (.aload_n 2, 1) := by decide +kernel
theorem dL_law_1113 : decode cL_law 1113 = .ok (.aload_n 0, 1) := by decide +kernel
theorem dL_law_1114 : decode cL_law 1114 = .ok (.iload 4, 2) := by decide +kernel
theorem dL_law_1116 : decode cL_law 1116 = .ok (.iconst 1, 1) := by decide +kernel
theorem dL_law_1117 : decode cL_law 1117 = .ok (.iadd, 1) := by decide +kernel
theorem dL_law_1118 : decode cL_law 1118 = .ok (.iaload, 1) := by decide +kernel
theorem dL_law_1119 : decode cL_law 1119 = .ok (.aload_n 0, 1) := by decide +kernel
theorem dL_law_1120 : decode cL_law 1120 = .ok (.iload 4, 2) := by decide +kernel
theorem dL_law_1122 : decode cL_law 1122 = .ok (.iconst 2, 1) := by decide +kernel
theorem dL_law_1123 : decode cL_law 1123 = .ok (.iadd, 1) := by decide +kernel
theorem dL_law_1124 : decode cL_law 1124 = .ok (.iaload, 1) := by decide +kernel
theorem dL_law_1125 : decode cL_law 1125 = .ok (.invokevirtual 157, 3) := by decide +kernel
theorem dL_law_1128 : decode cL_law 1128 = .ok (.pop, 1) := by decide +kernel
theorem dL_law_1129 : decode cL_law 1129 = .ok (.goto 215, 3) := by decide +kernel
theorem dL_law_1132 : decode cL_law 1132 = .ok (.aload_n 1, 1) := by decide +kernel
theorem dL_law_1133 : decode cL_law 1133 = .ok (.aload_n 0, 1) := by decide +kernel
theorem dL_law_1134 : decode cL_law 1134 = .ok (.iload 4, 2) := by decide +kernel
theorem dL_law_1136 : decode cL_law 1136 = .ok (.iconst 1, 1) := by decide +kernel
theorem dL_law_1137 : decode cL_law 1137 = .ok (.iadd, 1) := by decide +kernel
theorem dL_law_1138 : decode cL_law 1138 = .ok (.iaload, 1) := by decide +kernel
theorem dL_law_1139 : decode cL_law 1139 = .ok (.aload_n 0, 1) := by decide +kernel
theorem dL_law_1140 : decode cL_law 1140 = .ok (.iload 4, 2) := by decide +kernel
theorem dL_law_1142 : decode cL_law 1142 = .ok (.iconst 2, 1) := by decide +kernel
theorem dL_law_1143 : decode cL_law 1143 = .ok (.iadd, 1) := by decide +kernel
theorem dL_law_1144 : decode cL_law 1144 = .ok (.iaload, 1) := by decide +kernel
theorem dL_law_1145 : decode cL_law 1145 = .ok (.aload_n 0, 1) := by decide +kernel
theorem dL_law_1146 : decode cL_law 1146 = .ok (.iload 4, 2) := by decide +kernel
theorem dL_law_1148 : decode cL_law 1148 = .ok (.iconst 3, 1) := by decide +kernel
theorem dL_law_1149 : decode cL_law 1149 = .ok (.iadd, 1) := by decide +kernel
theorem dL_law_1150 : decode cL_law 1150 = .ok (.iaload, 1) := by decide +kernel
theorem dL_law_1151 : decode cL_law 1151 = .ok (.invokevirtual 158, 3) := by decide +kernel
theorem dL_law_1154 : decode cL_law 1154 = .ok (.pop, 1) := by decide +kernel
theorem dL_law_1155 : decode cL_law 1155 = .ok (.aload_n 2, 1) := by decide +kernel
theorem dL_law_1156 : decode cL_law 1156 = .ok (.aload_n 0, 1) := by decide +kernel
theorem dL_law_1157 : decode cL_law 1157 = .ok (.iload 4, 2) := by decide +kernel
theorem dL_law_1159 : decode cL_law 1159 = .ok (.iconst 1, 1) := by decide +kernel
theorem dL_law_1160 : decode cL_law 1160 = .ok (.iadd, 1) := by decide +kernel
theorem dL_law_1161 : decode cL_law 1161 = .ok (.iaload, 1) := by decide +kernel
theorem dL_law_1162 : decode cL_law 1162 = .ok (.aload_n 0, 1) := by decide +kernel
theorem dL_law_1163 : decode cL_law 1163 = .ok (.iload 4, 2) := by decide +kernel
theorem dL_law_1165 : decode cL_law 1165 = .ok (.iconst 2, 1) := by decide +kernel
theorem dL_law_1166 : decode cL_law 1166 = .ok (.iadd, 1) := by decide +kernel
theorem dL_law_1167 : decode cL_law 1167 = .ok (.iaload, 1) := by decide +kernel
theorem dL_law_1168 : decode cL_law 1168 = .ok (.aload_n 0, 1) := by decide +kernel
theorem dL_law_1169 : decode cL_law 1169 = .ok (.iload 4, 2) := by decide +kernel
theorem dL_law_1171 : decode cL_law 1171 = .ok (.iconst 3, 1) := by decide +kernel
theorem dL_law_1172 : decode cL_law 1172 = .ok (.iadd, 1) := by decide +kernel
theorem dL_law_1173 : decode cL_law 1173 = .ok (.iaload, 1) := by decide +kernel
theorem dL_law_1174 : decode cL_law 1174 = .ok (.invokevirtual 161, 3) := by decide +kernel
theorem dL_law_1177 : decode cL_law 1177 = .ok (.pop, 1) := by decide +kernel
theorem dL_law_1178 : decode cL_law 1178 = .ok (.goto 166, 3) := by decide +kernel
theorem dL_law_1181 : decode cL_law 1181 = .ok (.aload_n 1, 1) := by decide +kernel
theorem dL_law_1182 : decode cL_law 1182 = .ok (.aload_n 0, 1) := by decide +kernel
theorem dL_law_1183 : decode cL_law 1183 = .ok (.iload 4, 2) := by decide +kernel
theorem dL_law_1185 : decode cL_law 1185 = .ok (.iconst 1, 1) := by decide +kernel
theorem dL_law_1186 : decode cL_law 1186 = .ok (.iadd, 1) := by decide +kernel
theorem dL_law_1187 : decode cL_law 1187 = .ok (.iaload, 1) := by decide +kernel
theorem dL_law_1188 : decode cL_law 1188 = .ok (.invokevirtual 162, 3) := by decide +kernel
theorem dL_law_1191 : decode cL_law 1191 = .ok (.pop, 1) := by decide +kernel
theorem dL_law_1192 : decode cL_law 1192 = .ok (.aload_n 2, 1) := by decide +kernel
theorem dL_law_1193 : decode cL_law 1193 = .ok (.aload_n 0, 1) := by decide +kernel
theorem dL_law_1194 : decode cL_law 1194 = .ok (.iload 4, 2) := by decide +kernel
theorem dL_law_1196 : decode cL_law 1196 = .ok (.iconst 1, 1) := by decide +kernel
theorem dL_law_1197 : decode cL_law 1197 = .ok (.iadd, 1) := by decide +kernel
theorem dL_law_1198 : decode cL_law 1198 = .ok (.iaload, 1) := by decide +kernel
theorem dL_law_1199 : decode cL_law 1199 = .ok (.invokevirtual 165, 3) := by decide +kernel
theorem dL_law_1202 : decode cL_law 1202 = .ok (.pop, 1) := by decide +kernel
theorem dL_law_1203 : decode cL_law 1203 = .ok (.goto 141, 3) := by decide +kernel
theorem dL_law_1206 : decode cL_law 1206 = .ok (.aload_n 1, 1) := by decide +kernel
theorem dL_law_1207 : decode cL_law 1207 = .ok (.aload_n 0, 1) := by decide +kernel
theorem dL_law_1208 : decode cL_law 1208 = .ok (.iload 4, 2) := by decide +kernel
theorem dL_law_1210 : decode cL_law 1210 = .ok (.iconst 1, 1) := by decide +kernel
theorem dL_law_1211 : decode cL_law 1211 = .ok (.iadd, 1) := by decide +kernel
theorem dL_law_1212 : decode cL_law 1212 = .ok (.iaload, 1) := by decide +kernel
theorem dL_law_1213 : decode cL_law 1213 = .ok (.invokevirtual 166, 3) := by decide +kernel
theorem dL_law_1216 : decode cL_law 1216 = .ok (.pop, 1) := by decide +kernel
theorem dL_law_1217 : decode cL_law 1217 = .ok (.aload_n 2, 1) := by decide +kernel
theorem dL_law_1218 : decode cL_law 1218 = .ok (.aload_n 0, 1) := by decide +kernel
theorem dL_law_1219 : decode cL_law 1219 = .ok (.iload 4, 2) := by decide +kernel
theorem dL_law_1221 : decode cL_law 1221 = .ok (.iconst 1, 1) := by decide +kernel
theorem dL_law_1222 : decode cL_law 1222 = .ok (.iadd, 1) := by decide +kernel
theorem dL_law_1223 : decode cL_law 1223 = .ok (.iaload, 1) := by decide +kernel
theorem dL_law_1224 : decode cL_law 1224 = .ok (.invokevirtual 169, 3) := by decide +kernel
theorem dL_law_1227 : decode cL_law 1227 = .ok (.pop, 1) := by decide +kernel
theorem dL_law_1228 : decode cL_law 1228 = .ok (.goto 116, 3) := by decide +kernel
theorem dL_law_1231 : decode cL_law 1231 = .ok (.aload_n 1, 1) := by decide +kernel
theorem dL_law_1232 : decode cL_law 1232 = .ok (.invokevirtual 170, 3) := by decide +kernel
theorem dL_law_1235 : decode cL_law 1235 = .ok (.pop, 1) := by decide +kernel
theorem dL_law_1236 : decode cL_law 1236 = .ok (.aload_n 2, 1) := by decide +kernel
theorem dL_law_1237 : decode cL_law 1237 = .ok (.invokevirtual 173, 3) := by decide +kernel
theorem dL_law_1240 : decode cL_law 1240 = .ok (.pop, 1) := by decide +kernel
theorem dL_law_1241 : decode cL_law 1241 = .ok (.goto 103, 3) := by decide +kernel
theorem dL_law_1244 : decode cL_law 1244 = .ok (.aload_n 1, 1) := by decide +kernel
theorem dL_law_1245 : decode cL_law 1245 = .ok (.aload_n 0, 1) := by decide +kernel
theorem dL_law_1246 : decode cL_law 1246 = .ok (.iload 4, 2) := by decide +kernel
theorem dL_law_1248 : decode cL_law 1248 = .ok (.iconst 1, 1) := by decide +kernel
theorem dL_law_1249 : decode cL_law 1249 = .ok (.iadd, 1) := by decide +kernel
theorem dL_law_1250 : decode cL_law 1250 = .ok (.iaload, 1) := by decide +kernel
theorem dL_law_1251 : decode cL_law 1251 = .ok (.invokevirtual 174, 3) := by decide +kernel
theorem dL_law_1254 : decode cL_law 1254 = .ok (.pop, 1) := by decide +kernel
theorem dL_law_1255 : decode cL_law 1255 = .ok (.aload_n 2, 1) := by decide +kernel
theorem dL_law_1256 : decode cL_law 1256 = .ok (.aload_n 0, 1) := by decide +kernel
theorem dL_law_1257 : decode cL_law 1257 = .ok (.iload 4, 2) := by decide +kernel
theorem dL_law_1259 : decode cL_law 1259 = .ok (.iconst 1, 1) := by decide +kernel
theorem dL_law_1260 : decode cL_law 1260 = .ok (.iadd, 1) := by decide +kernel
theorem dL_law_1261 : decode cL_law 1261 = .ok (.iaload, 1) := by decide +kernel
theorem dL_law_1262 : decode cL_law 1262 = .ok (.invokevirtual 177, 3) := by decide +kernel
theorem dL_law_1265 : decode cL_law 1265 = .ok (.pop, 1) := by decide +kernel
theorem dL_law_1266 : decode cL_law 1266 = .ok (.goto 78, 3) := by decide +kernel
theorem dL_law_1269 : decode cL_law 1269 = .ok (.aload_n 1, 1) := by decide +kernel
theorem dL_law_1270 : decode cL_law 1270 = .ok (.aload_n 0, 1) := by decide +kernel
theorem dL_law_1271 : decode cL_law 1271 = .ok (.iload 4, 2) := by decide +kernel
theorem dL_law_1273 : decode cL_law 1273 = .ok (.iconst 1, 1) := by decide +kernel
theorem dL_law_1274 : decode cL_law 1274 = .ok (.iadd, 1) := by decide +kernel
theorem dL_law_1275 : decode cL_law 1275 = .ok (.iaload, 1) := by decide +kernel
theorem dL_law_1276 : decode cL_law 1276 = .ok (.invokevirtual 178, 3) := by decide +kernel
theorem dL_law_1279 : decode cL_law 1279 = .ok (.pop, 1) := by decide +kernel
theorem dL_law_1280 : decode cL_law 1280 = .ok (.aload_n 2, 1) := by decide +kernel
theorem dL_law_1281 : decode cL_law 1281 = .ok (.aload_n 0, 1) := by decide +kernel
theorem dL_law_1282 : decode cL_law 1282 = .ok (.iload 4, 2) := by decide +kernel
theorem dL_law_1284 : decode cL_law 1284 = .ok (.iconst 1, 1) := by decide +kernel
theorem dL_law_1285 : decode cL_law 1285 = .ok (.iadd, 1) := by decide +kernel
theorem dL_law_1286 : decode cL_law 1286 = .ok (.iaload, 1) := by decide +kernel
theorem dL_law_1287 : decode cL_law 1287 = .ok (.invokevirtual 181, 3) := by decide +kernel
theorem dL_law_1290 : decode cL_law 1290 = .ok (.pop, 1) := by decide +kernel
theorem dL_law_1291 : decode cL_law 1291 = .ok (.goto 53, 3) := by decide +kernel
theorem dL_law_1294 : decode cL_law 1294 = .ok (.aload_n 1, 1) := by decide +kernel
theorem dL_law_1295 : decode cL_law 1295 = .ok (.aload_n 0, 1) := by decide +kernel
theorem dL_law_1296 : decode cL_law 1296 = .ok (.iload 4, 2) := by decide +kernel
theorem dL_law_1298 : decode cL_law 1298 = .ok (.iconst 1, 1) := by decide +kernel
theorem dL_law_1299 : decode cL_law 1299 = .ok (.iadd, 1) := by decide +kernel
theorem dL_law_1300 : decode cL_law 1300 = .ok (.iaload, 1) := by decide +kernel
theorem dL_law_1301 : decode cL_law 1301 = .ok (.invokevirtual 182, 3) := by decide +kernel
theorem dL_law_1304 : decode cL_law 1304 = .ok (.pop, 1) := by decide +kernel
theorem dL_law_1305 : decode cL_law 1305 = .ok (.aload_n 2, 1) := by decide +kernel
theorem dL_law_1306 : decode cL_law 1306 = .ok (.aload_n 0, 1) := by decide +kernel
theorem dL_law_1307 : decode cL_law 1307 = .ok (.iload 4, 2) := by decide +kernel
theorem dL_law_1309 : decode cL_law 1309 = .ok (.iconst 1, 1) := by decide +kernel
theorem dL_law_1310 : decode cL_law 1310 = .ok (.iadd, 1) := by decide +kernel
theorem dL_law_1311 : decode cL_law 1311 = .ok (.iaload, 1) := by decide +kernel
theorem dL_law_1312 : decode cL_law 1312 = .ok (.invokevirtual 185, 3) := by decide +kernel
theorem dL_law_1315 : decode cL_law 1315 = .ok (.pop, 1) := by decide +kernel
theorem dL_law_1316 : decode cL_law 1316 = .ok (.goto 28, 3) := by decide +kernel
theorem dL_law_1319 : decode cL_law 1319 = .ok (.aload_n 1, 1) := by decide +kernel
theorem dL_law_1320 : decode cL_law 1320 = .ok (.aload_n 0, 1) := by decide +kernel
theorem dL_law_1321 : decode cL_law 1321 = .ok (.iload 4, 2) := by decide +kernel
theorem dL_law_1323 : decode cL_law 1323 = .ok (.iconst 1, 1) := by decide +kernel
theorem dL_law_1324 : decode cL_law 1324 = .ok (.iadd, 1) := by decide +kernel
theorem dL_law_1325 : decode cL_law 1325 = .ok (.iaload, 1) := by decide +kernel
theorem dL_law_1326 : decode cL_law 1326 = .ok (.invokevirtual 186, 3) := by decide +kernel
theorem dL_law_1329 : decode cL_law 1329 = .ok (.pop, 1) := by decide +kernel
theorem dL_law_1330 : decode cL_law 1330 = .ok (.aload_n 2, 1) := by decide +kernel
theorem dL_law_1331 : decode cL_law 1331 = .ok (.aload_n 0, 1) := by decide +kernel
theorem dL_law_1332 : decode cL_law 1332 = .ok (.iload 4, 2) := by decide +kernel
theorem dL_law_1334 : decode cL_law 1334 = .ok (.iconst 1, 1) := by decide +kernel
theorem dL_law_1335 : decode cL_law 1335 = .ok (.iadd, 1) := by decide +kernel
theorem dL_law_1336 : decode cL_law 1336 = .ok (.iaload, 1) := by decide +kernel
theorem dL_law_1337 : decode cL_law 1337 = .ok (.invokevirtual 189, 3) := by decide +kernel
theorem dL_law_1340 : decode cL_law 1340 = .ok (.pop, 1) := by decide +kernel
theorem dL_law_1341 : decode cL_law 1341 = .ok (.goto 3, 3) := by decide +kernel
theorem dL_law_1344 : decode cL_law 1344 = .ok (.iinc 4 6, 3) := by decide +kernel
theorem dL_law_1347 : decode cL_law 1347 = .ok (.goto (-1324), 3) := by decide +kernel
theorem dL_law_1350 : decode cL_law 1350 = .ok (.iconst 1, 1) := by decide +kernel
theorem dL_law_1351 : decode cL_law 1351 = .ok (.ireturn, 1) := by decide +kernel
set_option maxRecDepth 100000 in
set_option maxHeartbeats 4000000 in
theorem lw_one {p : Program} {l : Launch} {e : Env} {s : State} {m : MethodId} {below : List Frame} {meth : Method} {c : Code} {D : va_G} {cy : Nat → ClassId} {L : List Nat} {κ ln : Nat → Nat} {R : Nat → Nat → Option Nat} {I : Nat → Nat → Int32} {J : Nat → Nat → Int64} {x mm oo b N : Nat} {xs : Nat → Int32} (H : Lc_ p s m c D cy L b N xs) (hr : meth.sig.returnType = ret) (hk : meth.locks = false) {v : Int32} {cells slots : Nat} (h1 : cells ≤ 601024) (h2 : slots ≤ 7293034) : WG p l e room_1 s m #[Value.ref b] below meth c 7 cells slots (lw_Z below #[Value.ref b] s) D cy (AN_ [] s.heap.size) s.heap L κ ln R I J 1350 [(4, .int (v)), (3, .ref oo), (2, .ref mm), (1, .ref x), (0, .ref b)] [] := by
  obtain ⟨C, K, hX, hbl, hbA⟩ := H
  refine g_iconst C (v := 1) dL_law_1350 (by decide) ?_
  intro H locs ls hP hS hl
  exact va_forget (fun q hq => (hS.2.2 q hq).elim (fun h => absurd h List.not_mem_nil) id) (W.widen h1 h2 (lw_ret C.1 C.2.1 hr hk dL_law_1351))
set_option maxRecDepth 100000 in
set_option maxHeartbeats 4000000 in
theorem k_feed {p : Program} {l : Launch} {e : Env} {s : State} {m : MethodId} {below : List Frame} {meth : Method} {c : Code} {D : va_G} {cy : Nat → ClassId} {L LX LM : List Nat} {κ ln : Nat → Nat} {R : Nat → Nat → Option Nat} {I : Nat → Nat → Int32} {J : Nat → Nat → Int64} {ow : Nat → Nat × Nat} {x mm oo tp b N : Nat} {th trd tA tb0 tb1 tt0 tt1 rnw rkp rkt rnm rkn : Nat} {xs : Nat → Int32} (H : Lc_ p s m c D cy L b N xs) (hL : Lv_ L LX LM κ ln R ow x mm oo tp) (hO : Lo_ LX LM κ R ow x mm th trd tA tb0 tb1 tt0 tt1 rnw rkp rkt) (hP : Lpn_ LM κ R ow mm rnm rkn) {c0 : Int32} (hw : Lw_ LX LM κ R ow mm tp I (c0) (c0)) (hb0 : Lb_ R mm tp I J c0) (ht0 : Lt_ R th tb0 tb1 tt0 tt1 rnw rkp rkt I) (hn0 : Ln_ R th tt0 tt1 rkp rnm rkn I J) (hf0 : Lf_ mm tp I) {i : Nat} (hi : i + 6 ≤ N) (hN : N ≤ 3072) {cells slots : Nat} (hc1 : cells + 1 ≤ 601024) (hc2 : slots + 6 ≤ 7293034) (hend : ∀ (I2 : Nat → Nat → Int32) (J2 : Nat → Nat → Int64) (c2 : Int32), Lw_ LX LM κ R ow mm tp I2 (c2) (c2) → Lb_ R mm tp I2 J2 c2 → Lt_ R th tb0 tb1 tt0 tt1 rnw rkp rkt I2 → Ln_ R th tt0 tt1 rkp rnm rkn I2 J2 → Lf_ mm tp I2 → WG p l e room_1 s m #[Value.ref b] below meth c 7 (cells + 1) (slots + 6) (lw_Z below #[Value.ref b] s) D cy (AN_ [] s.heap.size) s.heap L κ ln R I2 J2 1344 [(4, .int (nI i)), (3, .ref oo), (2, .ref mm), (1, .ref x), (0, .ref b)] []) : WG p l e room_1 s m #[Value.ref b] below meth c 7 cells slots (lw_Z below #[Value.ref b] s) D cy (AN_ [] s.heap.size) s.heap L κ ln R I J 220 [(4, .int (nI i)), (3, .ref oo), (2, .ref mm), (1, .ref x), (0, .ref b)] [] := by
  obtain ⟨C, K, hX, hbl, hbA⟩ := H
  have hL0 := hL
  obtain ⟨hxs, hxn, hms, hmn, hdj, Wx, Wm, ⟨hx, kx⟩, ⟨hm, km⟩, ⟨hoo, koo, noo⟩, ⟨hR, htp, ktp⟩⟩ := hL
  have hcs : cells + 0 ≤ room_1.cells ∧ slots + 0 ≤ room_1.slots := ⟨show cells + 0 ≤ 601024 by omega, show slots + 0 ≤ 7293034 by omega⟩
  refine g_aload_n C 3 dL_law_220 rfl rfl ?_
  refine g_aload_n C 4 dL_law_221 rfl rfl ?_
  refine g_iload C 0 dL_law_222 rfl ?_
  refine g_iconst C (v := 1) dL_law_224 (by decide) ?_
  refine g_iadd C (v := nI (i + 1)) dL_law_225 (nI_a i 1) ?_
  refine g_sld C (v := xs (i + 1)) hX hbl hbA (xs_in hi (by decide) hN) (xs_at_ hi (by decide) hN) dL_law_226 ?_
  refine g_aload_n C 4 dL_law_227 rfl rfl ?_
  refine g_iload C 0 dL_law_228 rfl ?_
  refine g_iconst C (v := 2) dL_law_230 (by decide) ?_
  refine g_iadd C (v := nI (i + 2)) dL_law_231 (nI_a i 2) ?_
  refine g_sld C (v := xs (i + 2)) hX hbl hbA (xs_in hi (by decide) hN) (xs_at_ hi (by decide) hN) dL_law_232 ?_
  refine g_aload_n C 4 dL_law_233 rfl rfl ?_
  refine g_iload C 0 dL_law_234 rfl ?_
  refine g_iconst C (v := 3) dL_law_236 (by decide) ?_
  refine g_iadd C (v := nI (i + 3)) dL_law_237 (nI_a i 3) ?_
  refine g_sld C (v := xs (i + 3)) hX hbl hbA (xs_in hi (by decide) hN) (xs_at_ hi (by decide) hN) dL_law_238 ?_
  refine g_aload_n C 4 dL_law_239 rfl rfl ?_
  refine g_iload C 0 dL_law_240 rfl ?_
  refine g_iconst C (v := 4) dL_law_242 (by decide) ?_
  refine g_iadd C (v := nI (i + 4)) dL_law_243 (nI_a i 4) ?_
  refine g_sld C (v := xs (i + 4)) hX hbl hbA (xs_in hi (by decide) hN) (xs_at_ hi (by decide) hN) dL_law_244 ?_
  refine g_aload_n C 4 dL_law_245 rfl rfl ?_
  refine g_iload C 0 dL_law_246 rfl ?_
  refine g_iconst C (v := 5) dL_law_248 (by decide) ?_
  refine g_iadd C (v := nI (i + 5)) dL_law_249 (nI_a i 5) ?_
  refine g_sld C (v := xs (i + 5)) hX hbl hbA (xs_in hi (by decide) hN) (xs_at_ hi (by decide) hN) dL_law_250 ?_
  refine s_callVI C K hxs hxn (c_X11_feed_e Wx hx kx (xs (i + 1)) (xs (i + 2)) (xs (i + 3)) (xs (i + 4)) (xs (i + 5)) hw.1) hx kx (by decide) rfl v_L_19 rfl ⟨rfl, rfl⟩ ⟨Nat.le_of_ble_eq_true rfl, Nat.le_of_ble_eq_true rfl⟩ (Nat.le_of_ble_eq_true rfl) hcs dL_law_251 (st := []) rfl (fun r1 Ia1 Ja1 h1 Ib1 Jb1 ea1 eb1 fa1 fb1 => ?_)
  have hf1 := lf_x hL0 hf0 h1.2.1 (by decide) ea1 eb1
  have ht1 := lt_xf hL0 hO ht0 h1.2.1 (by decide) ea1 eb1
  have hn1 := ln_xf hL0 hO hP hn0 h1.2.1 (by decide) h1.2.2.1 (by decide) ea1 eb1 fa1 fb1
  have q1 : Tf_ c0 (Ia1 tp 5) r1 := by have q := h1.2.2.2.2.2 tp hR; rw [hw.2.2.1] at q; exact q
  have w1 := lx_set hL0 hw h1.1 rfl ea1 eb1
  refine g_pop C dL_law_254 rfl ?_
  refine g_aload_n C 2 dL_law_255 rfl rfl ?_
  refine g_aload_n C 4 dL_law_256 rfl rfl ?_
  refine g_iload C 0 dL_law_257 rfl ?_
  refine g_iconst C (v := 1) dL_law_259 (by decide) ?_
  refine g_iadd C (v := nI (i + 1)) dL_law_260 (nI_a i 1) ?_
  refine g_sld C (v := xs (i + 1)) hX hbl hbA (xs_in hi (by decide) hN) (xs_at_ hi (by decide) hN) dL_law_261 ?_
  refine g_aload_n C 4 dL_law_262 rfl rfl ?_
  refine g_iload C 0 dL_law_263 rfl ?_
  refine g_iconst C (v := 2) dL_law_265 (by decide) ?_
  refine g_iadd C (v := nI (i + 2)) dL_law_266 (nI_a i 2) ?_
  refine g_sld C (v := xs (i + 2)) hX hbl hbA (xs_in hi (by decide) hN) (xs_at_ hi (by decide) hN) dL_law_267 ?_
  refine g_aload_n C 4 dL_law_268 rfl rfl ?_
  refine g_iload C 0 dL_law_269 rfl ?_
  refine g_iconst C (v := 3) dL_law_271 (by decide) ?_
  refine g_iadd C (v := nI (i + 3)) dL_law_272 (nI_a i 3) ?_
  refine g_sld C (v := xs (i + 3)) hX hbl hbA (xs_in hi (by decide) hN) (xs_at_ hi (by decide) hN) dL_law_273 ?_
  refine g_aload_n C 4 dL_law_274 rfl rfl ?_
  refine g_iload C 0 dL_law_275 rfl ?_
  refine g_iconst C (v := 4) dL_law_277 (by decide) ?_
  refine g_iadd C (v := nI (i + 4)) dL_law_278 (nI_a i 4) ?_
  refine g_sld C (v := xs (i + 4)) hX hbl hbA (xs_in hi (by decide) hN) (xs_at_ hi (by decide) hN) dL_law_279 ?_
  refine g_aload_n C 4 dL_law_280 rfl rfl ?_
  refine g_iload C 0 dL_law_281 rfl ?_
  refine g_iconst C (v := 5) dL_law_283 (by decide) ?_
  refine g_iadd C (v := nI (i + 5)) dL_law_284 (nI_a i 5) ?_
  refine g_sld C (v := xs (i + 5)) hX hbl hbA (xs_in hi (by decide) hN) (xs_at_ hi (by decide) hN) dL_law_285 ?_
  refine s_callVI C K hms hmn (c_X12_feed_e Wm hm km (xs (i + 1)) (xs (i + 2)) (xs (i + 3)) (xs (i + 4)) (xs (i + 5)) w1.2.1) hm km (by decide) rfl v_L_23 rfl ⟨rfl, rfl⟩ ⟨Nat.le_of_ble_eq_true rfl, Nat.le_of_ble_eq_true rfl⟩ (Nat.le_of_ble_eq_true rfl) hcs dL_law_286 (st := []) rfl (fun r2 Ia2 Ja2 h2 Ib2 Jb2 ea2 eb2 fa2 fb2 => ?_)
  have hf2 := lf_m hL0 hf1 h2.2.1 (by decide) ea2 eb2
  have ht2 := lt_mf hL0 hO ht1 h2.2.1 (by decide) ea2 eb2
  have hn2 := ln_m hL0 hO hP hn1 h2.2.1 (by decide) h2.2.2.1 (by decide) ea2 eb2 fa2 fb2
  have q2 : Tf_ c0 (Ia2 mm 2) r2 := by have q := h2.2.2.2.2.2; rw [w1.2.2.2] at q; exact q
  have w2 := lm_set hL0 w1 h2.1 rfl ea2 eb2
  refine g_pop C dL_law_289 rfl ?_
  refine g_goto C (tgt := 1344) dL_law_290 (by decide) ?_
  have ec : Ia1 tp 5 = Ia2 mm 2 := (tf_1 q1 q2).2
  rw [ec] at w2
  have hb9 := lb_f hL0 hw hb0 h1.2.2.1 (by decide) h1.2.2.2.2.1 ea1 eb1 fa1 h2.2.2.2.2.1 ea2 eb2 fb2
  exact a_wide (Nat.le_succ _) (Nat.le_add_right _ 6) (hend _ _ _ w2 hb9 ht2 hn2 hf2)
set_option maxRecDepth 100000 in
set_option maxHeartbeats 4000000 in
theorem k_end {p : Program} {l : Launch} {e : Env} {s : State} {m : MethodId} {below : List Frame} {meth : Method} {c : Code} {D : va_G} {cy : Nat → ClassId} {L LX LM : List Nat} {κ ln : Nat → Nat} {R : Nat → Nat → Option Nat} {I : Nat → Nat → Int32} {J : Nat → Nat → Int64} {ow : Nat → Nat × Nat} {x mm oo tp b N : Nat} {th trd tA tb0 tb1 tt0 tt1 rnw rkp rkt rnm rkn : Nat} {xs : Nat → Int32} (H : Lc_ p s m c D cy L b N xs) (hL : Lv_ L LX LM κ ln R ow x mm oo tp) (hO : Lo_ LX LM κ R ow x mm th trd tA tb0 tb1 tt0 tt1 rnw rkp rkt) (hP : Lpn_ LM κ R ow mm rnm rkn) {c0 : Int32} (hw : Lw_ LX LM κ R ow mm tp I (c0) (c0)) (hb0 : Lb_ R mm tp I J c0) (ht0 : Lt_ R th tb0 tb1 tt0 tt1 rnw rkp rkt I) (hn0 : Ln_ R th tt0 tt1 rkp rnm rkn I J) (hf0 : Lf_ mm tp I) {i : Nat} (hi : i + 6 ≤ N) (hN : N ≤ 3072) {cells slots : Nat} (hc1 : cells + 1 ≤ 601024) (hc2 : slots + 6 ≤ 7293034) (hend : ∀ (I2 : Nat → Nat → Int32) (J2 : Nat → Nat → Int64) (c2 : Int32), Lw_ LX LM κ R ow mm tp I2 (c2) (c2) → Lb_ R mm tp I2 J2 c2 → Lt_ R th tb0 tb1 tt0 tt1 rnw rkp rkt I2 → Ln_ R th tt0 tt1 rkp rnm rkn I2 J2 → Lf_ mm tp I2 → WG p l e room_1 s m #[Value.ref b] below meth c 7 (cells + 1) (slots + 6) (lw_Z below #[Value.ref b] s) D cy (AN_ [] s.heap.size) s.heap L κ ln R I2 J2 1344 [(4, .int (nI i)), (3, .ref oo), (2, .ref mm), (1, .ref x), (0, .ref b)] []) : WG p l e room_1 s m #[Value.ref b] below meth c 7 cells slots (lw_Z below #[Value.ref b] s) D cy (AN_ [] s.heap.size) s.heap L κ ln R I J 293 [(4, .int (nI i)), (3, .ref oo), (2, .ref mm), (1, .ref x), (0, .ref b)] [] := by
  obtain ⟨C, K, hX, hbl, hbA⟩ := H
  have hL0 := hL
  obtain ⟨hxs, hxn, hms, hmn, hdj, Wx, Wm, ⟨hx, kx⟩, ⟨hm, km⟩, ⟨hoo, koo, noo⟩, ⟨hR, htp, ktp⟩⟩ := hL
  have hcs : cells + 0 ≤ room_1.cells ∧ slots + 0 ≤ room_1.slots := ⟨show cells + 0 ≤ 601024 by omega, show slots + 0 ≤ 7293034 by omega⟩
  refine g_aload_n C 3 dL_law_293 rfl rfl ?_
  refine g_aload_n C 4 dL_law_294 rfl rfl ?_
  refine g_iload C 0 dL_law_295 rfl ?_
  refine g_iconst C (v := 1) dL_law_297 (by decide) ?_
  refine g_iadd C (v := nI (i + 1)) dL_law_298 (nI_a i 1) ?_
  refine g_sld C (v := xs (i + 1)) hX hbl hbA (xs_in hi (by decide) hN) (xs_at_ hi (by decide) hN) dL_law_299 ?_
  refine s_callVI C K hxs hxn (c_X11_end_e Wx hx kx (xs (i + 1)) hw.1) hx kx (by decide) rfl v_L_24 rfl ⟨rfl, rfl⟩ ⟨Nat.le_of_ble_eq_true rfl, Nat.le_of_ble_eq_true rfl⟩ (Nat.le_of_ble_eq_true rfl) hcs dL_law_300 (st := []) rfl (fun r1 Ia1 Ja1 h1 Ib1 Jb1 ea1 eb1 fa1 fb1 => ?_)
  have hf1 := lf_x hL0 hf0 h1.2.1 (by decide) ea1 eb1
  have ht1 := lt_xf hL0 hO ht0 h1.2.1 (by decide) ea1 eb1
  have hn1 := ln_xf hL0 hO hP hn0 h1.2.1 (by decide) h1.2.2.1 (by decide) ea1 eb1 fa1 fb1
  have hb1 := lb_x hL0 hb0 h1.2.1 h1.2.2.1 (by decide) (by decide) ea1 eb1 fa1
  have q1 : Te_ c0 (Ia1 tp 5) (xs (i + 1)) r1 := by have q := h1.2.2.2.2 tp hR; rw [hw.2.2.1] at q; exact q
  have w1 := lx_set hL0 hw h1.1 rfl ea1 eb1
  refine g_pop C dL_law_303 rfl ?_
  refine g_aload_n C 2 dL_law_304 rfl rfl ?_
  refine g_aload_n C 4 dL_law_305 rfl rfl ?_
  refine g_iload C 0 dL_law_306 rfl ?_
  refine g_iconst C (v := 1) dL_law_308 (by decide) ?_
  refine g_iadd C (v := nI (i + 1)) dL_law_309 (nI_a i 1) ?_
  refine g_sld C (v := xs (i + 1)) hX hbl hbA (xs_in hi (by decide) hN) (xs_at_ hi (by decide) hN) dL_law_310 ?_
  refine s_callVI C K hms hmn (c_X12_end_e Wm hm km (xs (i + 1)) w1.2.1) hm km (by decide) rfl v_L_28 rfl ⟨rfl, rfl⟩ ⟨Nat.le_of_ble_eq_true rfl, Nat.le_of_ble_eq_true rfl⟩ (Nat.le_of_ble_eq_true rfl) hcs dL_law_311 (st := []) rfl (fun r2 Ia2 Ja2 h2 Ib2 Jb2 ea2 eb2 fa2 fb2 => ?_)
  have hf2 := lf_m hL0 hf1 h2.2.1 (by decide) ea2 eb2
  have ht2 := lt_mf hL0 hO ht1 h2.2.1 (by decide) ea2 eb2
  have hn2 := ln_m hL0 hO hP hn1 h2.2.1 (by decide) h2.2.2.1 (by decide) ea2 eb2 fa2 fb2
  have hb2 := lb_m hL0 hb1 h2.2.1 (by decide) ea2 eb2 fb2
  have q2 : Te_ c0 (Ia2 mm 2) (xs (i + 1)) r2 := by have q := h2.2.2.2.2; rw [w1.2.2.2] at q; exact q
  have w2 := lm_set hL0 w1 h2.1 rfl ea2 eb2
  refine g_pop C dL_law_314 rfl ?_
  refine g_goto C (tgt := 1344) dL_law_315 (by decide) ?_
  have ec : Ia1 tp 5 = Ia2 mm 2 := (te_1 q1 q2).2
  rw [ec] at w2
  have hb9 := lb_le hb2 (te_le q2)
  exact a_wide (Nat.le_succ _) (Nat.le_add_right _ 6) (hend _ _ _ w2 hb9 ht2 hn2 hf2)
set_option maxRecDepth 100000 in
set_option maxHeartbeats 4000000 in
theorem k_table {p : Program} {l : Launch} {e : Env} {s : State} {m : MethodId} {below : List Frame} {meth : Method} {c : Code} {D : va_G} {cy : Nat → ClassId} {L LX LM : List Nat} {κ ln : Nat → Nat} {R : Nat → Nat → Option Nat} {I : Nat → Nat → Int32} {J : Nat → Nat → Int64} {ow : Nat → Nat × Nat} {x mm oo tp b N : Nat} {th trd tA tb0 tb1 tt0 tt1 rnw rkp rkt rnm rkn : Nat} {xs : Nat → Int32} (H : Lc_ p s m c D cy L b N xs) (hL : Lv_ L LX LM κ ln R ow x mm oo tp) (hO : Lo_ LX LM κ R ow x mm th trd tA tb0 tb1 tt0 tt1 rnw rkp rkt) (hP : Lpn_ LM κ R ow mm rnm rkn) {c0 : Int32} (hw : Lw_ LX LM κ R ow mm tp I (c0) (c0)) (hb0 : Lb_ R mm tp I J c0) (ht0 : Lt_ R th tb0 tb1 tt0 tt1 rnw rkp rkt I) (hn0 : Ln_ R th tt0 tt1 rkp rnm rkn I J) (hf0 : Lf_ mm tp I) {i : Nat} (hi : i + 6 ≤ N) (hN : N ≤ 3072) {cells slots : Nat} (hc1 : cells + 1 ≤ 601024) (hc2 : slots + 6 ≤ 7293034) (hend : ∀ (I2 : Nat → Nat → Int32) (J2 : Nat → Nat → Int64) (c2 : Int32), Lw_ LX LM κ R ow mm tp I2 (c2) (c2) → Lb_ R mm tp I2 J2 c2 → Lt_ R th tb0 tb1 tt0 tt1 rnw rkp rkt I2 → Ln_ R th tt0 tt1 rkp rnm rkn I2 J2 → Lf_ mm tp I2 → WG p l e room_1 s m #[Value.ref b] below meth c 7 (cells + 1) (slots + 6) (lw_Z below #[Value.ref b] s) D cy (AN_ [] s.heap.size) s.heap L κ ln R I2 J2 1344 [(4, .int (nI i)), (3, .ref oo), (2, .ref mm), (1, .ref x), (0, .ref b)] []) : WG p l e room_1 s m #[Value.ref b] below meth c 7 cells slots (lw_Z below #[Value.ref b] s) D cy (AN_ [] s.heap.size) s.heap L κ ln R I J 318 [(4, .int (nI i)), (3, .ref oo), (2, .ref mm), (1, .ref x), (0, .ref b)] [] := by
  obtain ⟨C, K, hX, hbl, hbA⟩ := H
  have hL0 := hL
  obtain ⟨hxs, hxn, hms, hmn, hdj, Wx, Wm, ⟨hx, kx⟩, ⟨hm, km⟩, ⟨hoo, koo, noo⟩, ⟨hR, htp, ktp⟩⟩ := hL
  have hcs : cells + 0 ≤ room_1.cells ∧ slots + 0 ≤ room_1.slots := ⟨show cells + 0 ≤ 601024 by omega, show slots + 0 ≤ 7293034 by omega⟩
  refine g_aload_n C 3 dL_law_318 rfl rfl ?_
  refine s_callVI C K hxs hxn (c_X11_table_e Wx hx kx hw.1) hx kx (by decide) rfl v_L_29 rfl ⟨rfl, rfl⟩ ⟨Nat.le_of_ble_eq_true rfl, Nat.le_of_ble_eq_true rfl⟩ (Nat.le_of_ble_eq_true rfl) hcs dL_law_319 (st := []) rfl (fun r1 Ia1 Ja1 h1 Ib1 Jb1 ea1 eb1 fa1 fb1 => ?_)
  have hb1 := lb_x hL0 hb0 h1.2.1 h1.2.2.1 (by decide) (by decide) ea1 eb1 fa1
  have q1 : Ia1 tp 5 = 0 := h1.2.2.2.2.2.2.2.2.2.2 tp hR
  have w1 := lx_set hL0 hw h1.1 q1 ea1 eb1
  refine g_pop C dL_law_322 rfl ?_
  refine g_aload_n C 2 dL_law_323 rfl rfl ?_
  refine s_callVI C K hms hmn (c_X12_table_e Wm hm km w1.2.1) hm km (by decide) rfl v_L_33 rfl ⟨rfl, rfl⟩ ⟨Nat.le_of_ble_eq_true rfl, Nat.le_of_ble_eq_true rfl⟩ (Nat.le_of_ble_eq_true rfl) hcs dL_law_324 (st := []) rfl (fun r2 Ia2 Ja2 h2 Ib2 Jb2 ea2 eb2 fa2 fb2 => ?_)
  have hf9 := lf_table hL0 hw hb0 h1.2.2.2.2.2.2.2.2.2.1 ea1 eb1 h2.2.2.2.2.2.2.2.1 ea2 eb2
  have ht9 := lt_table hL0 hO hw hb0 ht0 h1.2.1 (by decide) h1.2.2.2.2.2.1 h1.2.2.2.2.2.2.1 ea1 eb1 h2.2.1 (by decide) h2.2.2.2.2.2.1 ea2 eb2
  have hn9 := ln_table hL0 hO hP hw hb0 hn0 h1.2.2.2.2.2.1 h1.2.2.2.2.2.2.2.1 h1.2.2.2.2.2.2.1 h1.2.2.2.2.2.2.2.2.1 ea1 eb1 fa1 fb1 h2.2.1 (by decide) h2.2.2.1 (by decide) h2.2.2.2.2.2.2.1 ea2 eb2 fa2 fb2
  have hb2 := lb_m hL0 hb1 h2.2.1 (by decide) ea2 eb2 fb2
  have q2 : Ia2 mm 2 = 0 := h2.2.2.2.2.2.2.2.2
  have w2 := lm_set hL0 w1 h2.1 q2 ea2 eb2
  refine g_pop C dL_law_327 rfl ?_
  refine g_goto C (tgt := 1344) dL_law_328 (by decide) ?_
  have hb9 := lb_le hb2 (tz_le rfl (lw_0 hL0 hw).1)
  exact a_wide (Nat.le_succ _) (Nat.le_add_right _ 6) (hend _ _ _ w2 hb9 ht9 hn9 hf9)
set_option maxRecDepth 100000 in
set_option maxHeartbeats 4000000 in
theorem k_fault {p : Program} {l : Launch} {e : Env} {s : State} {m : MethodId} {below : List Frame} {meth : Method} {c : Code} {D : va_G} {cy : Nat → ClassId} {L LX LM : List Nat} {κ ln : Nat → Nat} {R : Nat → Nat → Option Nat} {I : Nat → Nat → Int32} {J : Nat → Nat → Int64} {ow : Nat → Nat × Nat} {x mm oo tp b N : Nat} {th trd tA tb0 tb1 tt0 tt1 rnw rkp rkt rnm rkn : Nat} {xs : Nat → Int32} (H : Lc_ p s m c D cy L b N xs) (hL : Lv_ L LX LM κ ln R ow x mm oo tp) (hO : Lo_ LX LM κ R ow x mm th trd tA tb0 tb1 tt0 tt1 rnw rkp rkt) (hP : Lpn_ LM κ R ow mm rnm rkn) {c0 : Int32} (hw : Lw_ LX LM κ R ow mm tp I (c0) (c0)) (hb0 : Lb_ R mm tp I J c0) (ht0 : Lt_ R th tb0 tb1 tt0 tt1 rnw rkp rkt I) (hn0 : Ln_ R th tt0 tt1 rkp rnm rkn I J) (hf0 : Lf_ mm tp I) {i : Nat} (hi : i + 6 ≤ N) (hN : N ≤ 3072) {cells slots : Nat} (hc1 : cells + 1 ≤ 601024) (hc2 : slots + 6 ≤ 7293034) (hend : ∀ (I2 : Nat → Nat → Int32) (J2 : Nat → Nat → Int64) (c2 : Int32), Lw_ LX LM κ R ow mm tp I2 (c2) (c2) → Lb_ R mm tp I2 J2 c2 → Lt_ R th tb0 tb1 tt0 tt1 rnw rkp rkt I2 → Ln_ R th tt0 tt1 rkp rnm rkn I2 J2 → Lf_ mm tp I2 → WG p l e room_1 s m #[Value.ref b] below meth c 7 (cells + 1) (slots + 6) (lw_Z below #[Value.ref b] s) D cy (AN_ [] s.heap.size) s.heap L κ ln R I2 J2 1344 [(4, .int (nI i)), (3, .ref oo), (2, .ref mm), (1, .ref x), (0, .ref b)] []) : WG p l e room_1 s m #[Value.ref b] below meth c 7 cells slots (lw_Z below #[Value.ref b] s) D cy (AN_ [] s.heap.size) s.heap L κ ln R I J 331 [(4, .int (nI i)), (3, .ref oo), (2, .ref mm), (1, .ref x), (0, .ref b)] [] := by
  obtain ⟨C, K, hX, hbl, hbA⟩ := H
  have hL0 := hL
  obtain ⟨hxs, hxn, hms, hmn, hdj, Wx, Wm, ⟨hx, kx⟩, ⟨hm, km⟩, ⟨hoo, koo, noo⟩, ⟨hR, htp, ktp⟩⟩ := hL
  have hcs : cells + 0 ≤ room_1.cells ∧ slots + 0 ≤ room_1.slots := ⟨show cells + 0 ≤ 601024 by omega, show slots + 0 ≤ 7293034 by omega⟩
  refine g_aload_n C 3 dL_law_331 rfl rfl ?_
  refine s_callVI C K hxs hxn (c_X11_fault Wx hx kx hw.1) hx kx (by decide) rfl v_L_34 rfl ⟨rfl, rfl⟩ ⟨Nat.le_of_ble_eq_true rfl, Nat.le_of_ble_eq_true rfl⟩ (Nat.le_of_ble_eq_true rfl) hcs dL_law_332 (st := []) rfl (fun r1 Ia1 Ja1 h1 Ib1 Jb1 ea1 eb1 fa1 fb1 => ?_)
  have hf1 := lf_xp hL0 hf0 h1.1 ea1 eb1
  have ht1 := lt_xp hL0 hO ht0 h1.1 ea1 eb1
  have hn1 := ln_xp hL0 hO hP hn0 h1.1 h1.2.1 ea1 eb1 fa1 fb1
  have hb1 := lb_xp hL0 hb0 h1.1 h1.2.1 ea1 eb1 fa1
  have w1 := lx_pure hL0 hw h1.1 ea1 eb1
  refine g_aload_n C 2 dL_law_335 rfl rfl ?_
  refine s_callVI C K hms hmn (c_X12_fault Wm hm km w1.2.1) hm km (by decide) rfl v_L_37 rfl ⟨rfl, rfl⟩ ⟨Nat.le_of_ble_eq_true rfl, Nat.le_of_ble_eq_true rfl⟩ (Nat.le_of_ble_eq_true rfl) hcs dL_law_336 (st := [.int r1]) rfl (fun r2 Ia2 Ja2 h2 Ib2 Jb2 ea2 eb2 fa2 fb2 => ?_)
  have hf2 := lf_m hL0 hf1 h2.2.1 (by decide) ea2 eb2
  have ht2 := lt_mf hL0 hO ht1 h2.2.1 (by decide) ea2 eb2
  have hn2 := ln_m hL0 hO hP hn1 h2.2.1 (by decide) h2.2.2.1 (by decide) ea2 eb2 fa2 fb2
  have hb2 := lb_m hL0 hb1 h2.2.1 (by decide) ea2 eb2 fb2
  have w2 := lm_keep hL0 w1 h2.1 h2.2.1 (by decide) ea2 eb2
  refine t_icmp_eq C (tgt := 1344) (lf_fault hL0 hf0 h1.2.2.2 eb1 h2.2.2.2.2) dL_law_339 (by decide) ?_
  exact a_wide (Nat.le_succ _) (Nat.le_add_right _ 6) (hend _ _ _ w2 hb2 ht2 hn2 hf2)
set_option maxRecDepth 100000 in
set_option maxHeartbeats 4000000 in
theorem k_person {p : Program} {l : Launch} {e : Env} {s : State} {m : MethodId} {below : List Frame} {meth : Method} {c : Code} {D : va_G} {cy : Nat → ClassId} {L LX LM : List Nat} {κ ln : Nat → Nat} {R : Nat → Nat → Option Nat} {I : Nat → Nat → Int32} {J : Nat → Nat → Int64} {ow : Nat → Nat × Nat} {x mm oo tp b N : Nat} {th trd tA tb0 tb1 tt0 tt1 rnw rkp rkt rnm rkn : Nat} {xs : Nat → Int32} (H : Lc_ p s m c D cy L b N xs) (hL : Lv_ L LX LM κ ln R ow x mm oo tp) (hO : Lo_ LX LM κ R ow x mm th trd tA tb0 tb1 tt0 tt1 rnw rkp rkt) (hP : Lpn_ LM κ R ow mm rnm rkn) (hst : l.stackTraces = false) {sa sb : Nat} (hE : Ep_ sa sb (AN_ [] s.heap.size) s) {c0 : Int32} (hw : Lw_ LX LM κ R ow mm tp I (c0) (c0)) (hb0 : Lb_ R mm tp I J c0) (ht0 : Lt_ R th tb0 tb1 tt0 tt1 rnw rkp rkt I) (hn0 : Ln_ R th tt0 tt1 rkp rnm rkn I J) (hf0 : Lf_ mm tp I) {i : Nat} (hi : i + 6 ≤ N) (hN : N ≤ 3072) {cells slots : Nat} (hc1 : cells + 1 ≤ 601024) (hc2 : slots + 6 ≤ 7293034) (hend : ∀ (I2 : Nat → Nat → Int32) (J2 : Nat → Nat → Int64) (c2 : Int32), Lw_ LX LM κ R ow mm tp I2 (c2) (c2) → Lb_ R mm tp I2 J2 c2 → Lt_ R th tb0 tb1 tt0 tt1 rnw rkp rkt I2 → Ln_ R th tt0 tt1 rkp rnm rkn I2 J2 → Lf_ mm tp I2 → WG p l e room_1 s m #[Value.ref b] below meth c 7 (cells + 1) (slots + 6) (lw_Z below #[Value.ref b] s) D cy (AN_ [] s.heap.size) s.heap L κ ln R I2 J2 1344 [(4, .int (nI i)), (3, .ref oo), (2, .ref mm), (1, .ref x), (0, .ref b)] []) : WG p l e room_1 s m #[Value.ref b] below meth c 7 cells slots (lw_Z below #[Value.ref b] s) D cy (AN_ [] s.heap.size) s.heap L κ ln R I J 344 [(4, .int (nI i)), (3, .ref oo), (2, .ref mm), (1, .ref x), (0, .ref b)] [] := by
  obtain ⟨C, K, hX, hbl, hbA⟩ := H
  have hL0 := hL
  obtain ⟨hxs, hxn, hms, hmn, hdj, Wx, Wm, ⟨hx, kx⟩, ⟨hm, km⟩, ⟨hoo, koo, noo⟩, ⟨hR, htp, ktp⟩⟩ := hL
  have hcs : cells + 0 ≤ room_1.cells ∧ slots + 0 ≤ room_1.slots := ⟨show cells + 0 ≤ 601024 by omega, show slots + 0 ≤ 7293034 by omega⟩
  refine g_aload_n C 3 dL_law_344 rfl rfl ?_
  refine g_aload_n C 4 dL_law_345 rfl rfl ?_
  refine g_iload C 0 dL_law_346 rfl ?_
  refine g_iconst C (v := 1) dL_law_348 (by decide) ?_
  refine g_iadd C (v := nI (i + 1)) dL_law_349 (nI_a i 1) ?_
  refine g_sld C (v := xs (i + 1)) hX hbl hbA (xs_in hi (by decide) hN) (xs_at_ hi (by decide) hN) dL_law_350 ?_
  refine g_aload_n C 4 dL_law_351 rfl rfl ?_
  refine g_iload C 0 dL_law_352 rfl ?_
  refine g_iconst C (v := 2) dL_law_354 (by decide) ?_
  refine g_iadd C (v := nI (i + 2)) dL_law_355 (nI_a i 2) ?_
  refine g_sld C (v := xs (i + 2)) hX hbl hbA (xs_in hi (by decide) hN) (xs_at_ hi (by decide) hN) dL_law_356 ?_
  refine g_aload_n C 1 dL_law_357 rfl rfl ?_
  refine s_person (ow := ow) C K (fun q h => Or.inr h) hxs hxn hst Wx hx kx hoo koo noo hw.1 hE ⟨Nat.le_of_ble_eq_true rfl, Nat.le_of_ble_eq_true rfl⟩ (Nat.le_of_ble_eq_true rfl) ⟨hc1, hc2⟩ dL_law_358 (fun r1 J3 hJ3 => ?_)
  have hbp := lb_p hL0 hb0 hJ3
  have hnp := ln_p hL0 hO hP hn0 hJ3
  have hcs : cells + 1 + 0 ≤ room_1.cells ∧ slots + 6 + 0 ≤ room_1.slots := ⟨hc1, hc2⟩
  refine g_istore C dL_law_361 (by decide) (lo2 := [(5, .int r1), (4, .int (nI i)), (3, .ref oo), (2, .ref mm), (1, .ref x), (0, .ref b)]) rfl ?_
  refine g_aload_n C 3 dL_law_363 rfl rfl ?_
  refine g_aload_n C 5 dL_law_364 rfl rfl ?_
  refine g_iload C 1 dL_law_365 rfl ?_
  refine g_iconst C (v := 1) dL_law_367 (by decide) ?_
  refine g_iadd C (v := nI (i + 1)) dL_law_368 (nI_a i 1) ?_
  refine g_sld C (v := xs (i + 1)) hX hbl hbA (xs_in hi (by decide) hN) (xs_at_ hi (by decide) hN) dL_law_369 ?_
  refine g_aload_n C 5 dL_law_370 rfl rfl ?_
  refine g_iload C 1 dL_law_371 rfl ?_
  refine g_iconst C (v := 2) dL_law_373 (by decide) ?_
  refine g_iadd C (v := nI (i + 2)) dL_law_374 (nI_a i 2) ?_
  refine g_sld C (v := xs (i + 2)) hX hbl hbA (xs_in hi (by decide) hN) (xs_at_ hi (by decide) hN) dL_law_375 ?_
  refine s_callVI C K hms hmn (c_X12_person Wm hm km (xs (i + 1)) (xs (i + 2)) hw.2.1) hm km (by decide) rfl v_L_43 rfl ⟨rfl, rfl⟩ ⟨Nat.le_of_ble_eq_true rfl, Nat.le_of_ble_eq_true rfl⟩ (Nat.le_of_ble_eq_true rfl) hcs dL_law_376 (st := []) rfl (fun r2 Ia2 Ja2 h2 Ib2 Jb2 ea2 eb2 fa2 fb2 => ?_)
  have hf2 := lf_m hL0 hf0 h2.2.1 (by decide) ea2 eb2
  have ht2 := lt_mf hL0 hO ht0 h2.2.1 (by decide) ea2 eb2
  have hn2 := ln_m hL0 hO hP hnp h2.2.1 (by decide) h2.2.2.1 (by decide) ea2 eb2 fa2 fb2
  have hb2 := lb_m hL0 hbp h2.2.1 (by decide) ea2 eb2 fb2
  have w2 := lm_keep hL0 hw h2.1 h2.2.1 (by decide) ea2 eb2
  refine g_istore C dL_law_379 (by decide) (lo2 := [(6, .int r2), (5, .int r1), (4, .int (nI i)), (3, .ref oo), (2, .ref mm), (1, .ref x), (0, .ref b)]) rfl ?_
  refine g_goto C (tgt := 1344) dL_law_381 (by decide) ?_
  refine g_lo (is := [2, 3, 4, 5, 6]) (lo2 := [(4, .int (nI i)), (3, .ref oo), (2, .ref mm), (1, .ref x), (0, .ref b)]) rfl ?_
  exact hend _ _ _ w2 hb2 ht2 hn2 hf2
set_option maxRecDepth 100000 in
set_option maxHeartbeats 4000000 in
theorem k_plate {p : Program} {l : Launch} {e : Env} {s : State} {m : MethodId} {below : List Frame} {meth : Method} {c : Code} {D : va_G} {cy : Nat → ClassId} {L LX LM : List Nat} {κ ln : Nat → Nat} {R : Nat → Nat → Option Nat} {I : Nat → Nat → Int32} {J : Nat → Nat → Int64} {ow : Nat → Nat × Nat} {x mm oo tp b N : Nat} {th trd tA tb0 tb1 tt0 tt1 rnw rkp rkt rnm rkn : Nat} {xs : Nat → Int32} (H : Lc_ p s m c D cy L b N xs) (hL : Lv_ L LX LM κ ln R ow x mm oo tp) (hO : Lo_ LX LM κ R ow x mm th trd tA tb0 tb1 tt0 tt1 rnw rkp rkt) (hP : Lpn_ LM κ R ow mm rnm rkn) {c0 : Int32} (hw : Lw_ LX LM κ R ow mm tp I (c0) (c0)) (hb0 : Lb_ R mm tp I J c0) (ht0 : Lt_ R th tb0 tb1 tt0 tt1 rnw rkp rkt I) (hn0 : Ln_ R th tt0 tt1 rkp rnm rkn I J) (hf0 : Lf_ mm tp I) {i : Nat} (hi : i + 6 ≤ N) (hN : N ≤ 3072) {cells slots : Nat} (hc1 : cells + 1 ≤ 601024) (hc2 : slots + 6 ≤ 7293034) (hend : ∀ (I2 : Nat → Nat → Int32) (J2 : Nat → Nat → Int64) (c2 : Int32), Lw_ LX LM κ R ow mm tp I2 (c2) (c2) → Lb_ R mm tp I2 J2 c2 → Lt_ R th tb0 tb1 tt0 tt1 rnw rkp rkt I2 → Ln_ R th tt0 tt1 rkp rnm rkn I2 J2 → Lf_ mm tp I2 → WG p l e room_1 s m #[Value.ref b] below meth c 7 (cells + 1) (slots + 6) (lw_Z below #[Value.ref b] s) D cy (AN_ [] s.heap.size) s.heap L κ ln R I2 J2 1344 [(4, .int (nI i)), (3, .ref oo), (2, .ref mm), (1, .ref x), (0, .ref b)] []) : WG p l e room_1 s m #[Value.ref b] below meth c 7 cells slots (lw_Z below #[Value.ref b] s) D cy (AN_ [] s.heap.size) s.heap L κ ln R I J 384 [(4, .int (nI i)), (3, .ref oo), (2, .ref mm), (1, .ref x), (0, .ref b)] [] := by
  obtain ⟨C, K, hX, hbl, hbA⟩ := H
  have hL0 := hL
  obtain ⟨hxs, hxn, hms, hmn, hdj, Wx, Wm, ⟨hx, kx⟩, ⟨hm, km⟩, ⟨hoo, koo, noo⟩, ⟨hR, htp, ktp⟩⟩ := hL
  have hcs : cells + 0 ≤ room_1.cells ∧ slots + 0 ≤ room_1.slots := ⟨show cells + 0 ≤ 601024 by omega, show slots + 0 ≤ 7293034 by omega⟩
  refine g_aload_n C 3 dL_law_384 rfl rfl ?_
  refine g_aload_n C 4 dL_law_385 rfl rfl ?_
  refine g_iload C 0 dL_law_386 rfl ?_
  refine g_iconst C (v := 1) dL_law_388 (by decide) ?_
  refine g_iadd C (v := nI (i + 1)) dL_law_389 (nI_a i 1) ?_
  refine g_sld C (v := xs (i + 1)) hX hbl hbA (xs_in hi (by decide) hN) (xs_at_ hi (by decide) hN) dL_law_390 ?_
  refine g_aload_n C 4 dL_law_391 rfl rfl ?_
  refine g_iload C 0 dL_law_392 rfl ?_
  refine g_iconst C (v := 2) dL_law_394 (by decide) ?_
  refine g_iadd C (v := nI (i + 2)) dL_law_395 (nI_a i 2) ?_
  refine g_sld C (v := xs (i + 2)) hX hbl hbA (xs_in hi (by decide) hN) (xs_at_ hi (by decide) hN) dL_law_396 ?_
  refine s_callVI C K hxs hxn (c_X11_plate Wx hx kx (xs (i + 1)) (xs (i + 2)) hw.1) hx kx (by decide) rfl v_L_44 rfl ⟨rfl, rfl⟩ ⟨Nat.le_of_ble_eq_true rfl, Nat.le_of_ble_eq_true rfl⟩ (Nat.le_of_ble_eq_true rfl) hcs dL_law_397 (st := []) rfl (fun r1 Ia1 Ja1 h1 Ib1 Jb1 ea1 eb1 fa1 fb1 => ?_)
  have hf1 := lf_xp hL0 hf0 h1.1 ea1 eb1
  have ht1 := lt_xp hL0 hO ht0 h1.1 ea1 eb1
  have hn1 := ln_xp hL0 hO hP hn0 h1.1 h1.2.1 ea1 eb1 fa1 fb1
  have hb1 := lb_xp hL0 hb0 h1.1 h1.2.1 ea1 eb1 fa1
  have w1 := lx_pure hL0 hw h1.1 ea1 eb1
  refine g_pop C dL_law_400 rfl ?_
  refine g_aload_n C 2 dL_law_401 rfl rfl ?_
  refine g_aload_n C 4 dL_law_402 rfl rfl ?_
  refine g_iload C 0 dL_law_403 rfl ?_
  refine g_iconst C (v := 1) dL_law_405 (by decide) ?_
  refine g_iadd C (v := nI (i + 1)) dL_law_406 (nI_a i 1) ?_
  refine g_sld C (v := xs (i + 1)) hX hbl hbA (xs_in hi (by decide) hN) (xs_at_ hi (by decide) hN) dL_law_407 ?_
  refine g_aload_n C 4 dL_law_408 rfl rfl ?_
  refine g_iload C 0 dL_law_409 rfl ?_
  refine g_iconst C (v := 2) dL_law_411 (by decide) ?_
  refine g_iadd C (v := nI (i + 2)) dL_law_412 (nI_a i 2) ?_
  refine g_sld C (v := xs (i + 2)) hX hbl hbA (xs_in hi (by decide) hN) (xs_at_ hi (by decide) hN) dL_law_413 ?_
  refine s_callVI C K hms hmn (c_X12_plate Wm hm km (xs (i + 1)) (xs (i + 2)) w1.2.1) hm km (by decide) rfl v_L_47 rfl ⟨rfl, rfl⟩ ⟨Nat.le_of_ble_eq_true rfl, Nat.le_of_ble_eq_true rfl⟩ (Nat.le_of_ble_eq_true rfl) hcs dL_law_414 (st := []) rfl (fun r2 Ia2 Ja2 h2 Ib2 Jb2 ea2 eb2 fa2 fb2 => ?_)
  have hf2 := lf_m hL0 hf1 h2.2.1 (by decide) ea2 eb2
  have ht2 := lt_mf hL0 hO ht1 h2.2.1 (by decide) ea2 eb2
  have hn2 := ln_m hL0 hO hP hn1 h2.2.1 (by decide) h2.2.2.1 (by decide) ea2 eb2 fa2 fb2
  have hb2 := lb_m hL0 hb1 h2.2.1 (by decide) ea2 eb2 fb2
  have w2 := lm_keep hL0 w1 h2.1 h2.2.1 (by decide) ea2 eb2
  refine g_pop C dL_law_417 rfl ?_
  refine g_goto C (tgt := 1344) dL_law_418 (by decide) ?_
  exact a_wide (Nat.le_succ _) (Nat.le_add_right _ 6) (hend _ _ _ w2 hb2 ht2 hn2 hf2)
set_option maxRecDepth 100000 in
set_option maxHeartbeats 4000000 in
theorem k_dish {p : Program} {l : Launch} {e : Env} {s : State} {m : MethodId} {below : List Frame} {meth : Method} {c : Code} {D : va_G} {cy : Nat → ClassId} {L LX LM : List Nat} {κ ln : Nat → Nat} {R : Nat → Nat → Option Nat} {I : Nat → Nat → Int32} {J : Nat → Nat → Int64} {ow : Nat → Nat × Nat} {x mm oo tp b N : Nat} {th trd tA tb0 tb1 tt0 tt1 rnw rkp rkt rnm rkn : Nat} {xs : Nat → Int32} (H : Lc_ p s m c D cy L b N xs) (hL : Lv_ L LX LM κ ln R ow x mm oo tp) (hO : Lo_ LX LM κ R ow x mm th trd tA tb0 tb1 tt0 tt1 rnw rkp rkt) (hP : Lpn_ LM κ R ow mm rnm rkn) {c0 : Int32} (hw : Lw_ LX LM κ R ow mm tp I (c0) (c0)) (hb0 : Lb_ R mm tp I J c0) (ht0 : Lt_ R th tb0 tb1 tt0 tt1 rnw rkp rkt I) (hn0 : Ln_ R th tt0 tt1 rkp rnm rkn I J) (hf0 : Lf_ mm tp I) {i : Nat} (hi : i + 6 ≤ N) (hN : N ≤ 3072) {cells slots : Nat} (hc1 : cells + 1 ≤ 601024) (hc2 : slots + 6 ≤ 7293034) (hend : ∀ (I2 : Nat → Nat → Int32) (J2 : Nat → Nat → Int64) (c2 : Int32), Lw_ LX LM κ R ow mm tp I2 (c2) (c2) → Lb_ R mm tp I2 J2 c2 → Lt_ R th tb0 tb1 tt0 tt1 rnw rkp rkt I2 → Ln_ R th tt0 tt1 rkp rnm rkn I2 J2 → Lf_ mm tp I2 → WG p l e room_1 s m #[Value.ref b] below meth c 7 (cells + 1) (slots + 6) (lw_Z below #[Value.ref b] s) D cy (AN_ [] s.heap.size) s.heap L κ ln R I2 J2 1344 [(4, .int (nI i)), (3, .ref oo), (2, .ref mm), (1, .ref x), (0, .ref b)] []) : WG p l e room_1 s m #[Value.ref b] below meth c 7 cells slots (lw_Z below #[Value.ref b] s) D cy (AN_ [] s.heap.size) s.heap L κ ln R I J 421 [(4, .int (nI i)), (3, .ref oo), (2, .ref mm), (1, .ref x), (0, .ref b)] [] := by
  obtain ⟨C, K, hX, hbl, hbA⟩ := H
  have hL0 := hL
  obtain ⟨hxs, hxn, hms, hmn, hdj, Wx, Wm, ⟨hx, kx⟩, ⟨hm, km⟩, ⟨hoo, koo, noo⟩, ⟨hR, htp, ktp⟩⟩ := hL
  have hcs : cells + 0 ≤ room_1.cells ∧ slots + 0 ≤ room_1.slots := ⟨show cells + 0 ≤ 601024 by omega, show slots + 0 ≤ 7293034 by omega⟩
  refine g_aload_n C 3 dL_law_421 rfl rfl ?_
  refine g_aload_n C 4 dL_law_422 rfl rfl ?_
  refine g_iload C 0 dL_law_423 rfl ?_
  refine g_iconst C (v := 1) dL_law_425 (by decide) ?_
  refine g_iadd C (v := nI (i + 1)) dL_law_426 (nI_a i 1) ?_
  refine g_sld C (v := xs (i + 1)) hX hbl hbA (xs_in hi (by decide) hN) (xs_at_ hi (by decide) hN) dL_law_427 ?_
  refine g_aload_n C 4 dL_law_428 rfl rfl ?_
  refine g_iload C 0 dL_law_429 rfl ?_
  refine g_iconst C (v := 2) dL_law_431 (by decide) ?_
  refine g_iadd C (v := nI (i + 2)) dL_law_432 (nI_a i 2) ?_
  refine g_sld C (v := xs (i + 2)) hX hbl hbA (xs_in hi (by decide) hN) (xs_at_ hi (by decide) hN) dL_law_433 ?_
  refine s_callVI C K hxs hxn (c_X11_dish Wx hx kx (xs (i + 1)) (xs (i + 2)) hw.1) hx kx (by decide) rfl v_L_48 rfl ⟨rfl, rfl⟩ ⟨Nat.le_of_ble_eq_true rfl, Nat.le_of_ble_eq_true rfl⟩ (Nat.le_of_ble_eq_true rfl) hcs dL_law_434 (st := []) rfl (fun r1 Ia1 Ja1 h1 Ib1 Jb1 ea1 eb1 fa1 fb1 => ?_)
  have hf1 := lf_xp hL0 hf0 h1.1 ea1 eb1
  have ht1 := lt_xp hL0 hO ht0 h1.1 ea1 eb1
  have hn1 := ln_xp hL0 hO hP hn0 h1.1 h1.2.1 ea1 eb1 fa1 fb1
  have hb1 := lb_xp hL0 hb0 h1.1 h1.2.1 ea1 eb1 fa1
  have w1 := lx_pure hL0 hw h1.1 ea1 eb1
  refine g_pop C dL_law_437 rfl ?_
  refine g_aload_n C 2 dL_law_438 rfl rfl ?_
  refine g_aload_n C 4 dL_law_439 rfl rfl ?_
  refine g_iload C 0 dL_law_440 rfl ?_
  refine g_iconst C (v := 1) dL_law_442 (by decide) ?_
  refine g_iadd C (v := nI (i + 1)) dL_law_443 (nI_a i 1) ?_
  refine g_sld C (v := xs (i + 1)) hX hbl hbA (xs_in hi (by decide) hN) (xs_at_ hi (by decide) hN) dL_law_444 ?_
  refine g_aload_n C 4 dL_law_445 rfl rfl ?_
  refine g_iload C 0 dL_law_446 rfl ?_
  refine g_iconst C (v := 2) dL_law_448 (by decide) ?_
  refine g_iadd C (v := nI (i + 2)) dL_law_449 (nI_a i 2) ?_
  refine g_sld C (v := xs (i + 2)) hX hbl hbA (xs_in hi (by decide) hN) (xs_at_ hi (by decide) hN) dL_law_450 ?_
  refine s_callVI C K hms hmn (c_X12_dish Wm hm km (xs (i + 1)) (xs (i + 2)) w1.2.1) hm km (by decide) rfl v_L_51 rfl ⟨rfl, rfl⟩ ⟨Nat.le_of_ble_eq_true rfl, Nat.le_of_ble_eq_true rfl⟩ (Nat.le_of_ble_eq_true rfl) hcs dL_law_451 (st := []) rfl (fun r2 Ia2 Ja2 h2 Ib2 Jb2 ea2 eb2 fa2 fb2 => ?_)
  have hf2 := lf_m hL0 hf1 h2.2.1 (by decide) ea2 eb2
  have ht2 := lt_mf hL0 hO ht1 h2.2.1 (by decide) ea2 eb2
  have hn2 := ln_m hL0 hO hP hn1 h2.2.1 (by decide) h2.2.2.1 (by decide) ea2 eb2 fa2 fb2
  have hb2 := lb_m hL0 hb1 h2.2.1 (by decide) ea2 eb2 fb2
  have w2 := lm_keep hL0 w1 h2.1 h2.2.1 (by decide) ea2 eb2
  refine g_pop C dL_law_454 rfl ?_
  refine g_goto C (tgt := 1344) dL_law_455 (by decide) ?_
  exact a_wide (Nat.le_succ _) (Nat.le_add_right _ 6) (hend _ _ _ w2 hb2 ht2 hn2 hf2)
set_option maxRecDepth 100000 in
set_option maxHeartbeats 4000000 in
theorem k_now {p : Program} {l : Launch} {e : Env} {s : State} {m : MethodId} {below : List Frame} {meth : Method} {c : Code} {D : va_G} {cy : Nat → ClassId} {L LX LM : List Nat} {κ ln : Nat → Nat} {R : Nat → Nat → Option Nat} {I : Nat → Nat → Int32} {J : Nat → Nat → Int64} {ow : Nat → Nat × Nat} {x mm oo tp b N : Nat} {th trd tA tb0 tb1 tt0 tt1 rnw rkp rkt rnm rkn : Nat} {xs : Nat → Int32} (H : Lc_ p s m c D cy L b N xs) (hL : Lv_ L LX LM κ ln R ow x mm oo tp) (hO : Lo_ LX LM κ R ow x mm th trd tA tb0 tb1 tt0 tt1 rnw rkp rkt) (hP : Lpn_ LM κ R ow mm rnm rkn) {c0 : Int32} (hw : Lw_ LX LM κ R ow mm tp I (c0) (c0)) (hb0 : Lb_ R mm tp I J c0) (ht0 : Lt_ R th tb0 tb1 tt0 tt1 rnw rkp rkt I) (hn0 : Ln_ R th tt0 tt1 rkp rnm rkn I J) (hf0 : Lf_ mm tp I) {i : Nat} (hi : i + 6 ≤ N) (hN : N ≤ 3072) {cells slots : Nat} (hc1 : cells + 1 ≤ 601024) (hc2 : slots + 6 ≤ 7293034) (hend : ∀ (I2 : Nat → Nat → Int32) (J2 : Nat → Nat → Int64) (c2 : Int32), Lw_ LX LM κ R ow mm tp I2 (c2) (c2) → Lb_ R mm tp I2 J2 c2 → Lt_ R th tb0 tb1 tt0 tt1 rnw rkp rkt I2 → Ln_ R th tt0 tt1 rkp rnm rkn I2 J2 → Lf_ mm tp I2 → WG p l e room_1 s m #[Value.ref b] below meth c 7 (cells + 1) (slots + 6) (lw_Z below #[Value.ref b] s) D cy (AN_ [] s.heap.size) s.heap L κ ln R I2 J2 1344 [(4, .int (nI i)), (3, .ref oo), (2, .ref mm), (1, .ref x), (0, .ref b)] []) : WG p l e room_1 s m #[Value.ref b] below meth c 7 cells slots (lw_Z below #[Value.ref b] s) D cy (AN_ [] s.heap.size) s.heap L κ ln R I J 458 [(4, .int (nI i)), (3, .ref oo), (2, .ref mm), (1, .ref x), (0, .ref b)] [] := by
  obtain ⟨C, K, hX, hbl, hbA⟩ := H
  have hL0 := hL
  obtain ⟨hxs, hxn, hms, hmn, hdj, Wx, Wm, ⟨hx, kx⟩, ⟨hm, km⟩, ⟨hoo, koo, noo⟩, ⟨hR, htp, ktp⟩⟩ := hL
  have hcs : cells + 0 ≤ room_1.cells ∧ slots + 0 ≤ room_1.slots := ⟨show cells + 0 ≤ 601024 by omega, show slots + 0 ≤ 7293034 by omega⟩
  refine g_aload_n C 3 dL_law_458 rfl rfl ?_
  refine g_aload_n C 4 dL_law_459 rfl rfl ?_
  refine g_iload C 0 dL_law_460 rfl ?_
  refine g_iconst C (v := 1) dL_law_462 (by decide) ?_
  refine g_iadd C (v := nI (i + 1)) dL_law_463 (nI_a i 1) ?_
  refine g_sld C (v := xs (i + 1)) hX hbl hbA (xs_in hi (by decide) hN) (xs_at_ hi (by decide) hN) dL_law_464 ?_
  refine s_callVI C K hxs hxn (c_X11_now Wx hx kx (xs (i + 1)) hw.1) hx kx (by decide) rfl v_L_52 rfl ⟨rfl, rfl⟩ ⟨Nat.le_of_ble_eq_true rfl, Nat.le_of_ble_eq_true rfl⟩ (Nat.le_of_ble_eq_true rfl) hcs dL_law_465 (st := []) rfl (fun r1 Ia1 Ja1 h1 Ib1 Jb1 ea1 eb1 fa1 fb1 => ?_)
  have hf1 := lf_xp hL0 hf0 h1.1 ea1 eb1
  have ht1 := lt_xp hL0 hO ht0 h1.1 ea1 eb1
  have hn1 := ln_xp hL0 hO hP hn0 h1.1 h1.2.1 ea1 eb1 fa1 fb1
  have hb1 := lb_xp hL0 hb0 h1.1 h1.2.1 ea1 eb1 fa1
  have w1 := lx_pure hL0 hw h1.1 ea1 eb1
  refine g_pop C dL_law_468 rfl ?_
  refine g_aload_n C 2 dL_law_469 rfl rfl ?_
  refine g_aload_n C 4 dL_law_470 rfl rfl ?_
  refine g_iload C 0 dL_law_471 rfl ?_
  refine g_iconst C (v := 1) dL_law_473 (by decide) ?_
  refine g_iadd C (v := nI (i + 1)) dL_law_474 (nI_a i 1) ?_
  refine g_sld C (v := xs (i + 1)) hX hbl hbA (xs_in hi (by decide) hN) (xs_at_ hi (by decide) hN) dL_law_475 ?_
  refine s_callVI C K hms hmn (c_X12_now Wm hm km (xs (i + 1)) w1.2.1) hm km (by decide) rfl v_L_56 rfl ⟨rfl, rfl⟩ ⟨Nat.le_of_ble_eq_true rfl, Nat.le_of_ble_eq_true rfl⟩ (Nat.le_of_ble_eq_true rfl) hcs dL_law_476 (st := []) rfl (fun r2 Ia2 Ja2 h2 Ib2 Jb2 ea2 eb2 fa2 fb2 => ?_)
  have hf2 := lf_m hL0 hf1 h2.2.1 (by decide) ea2 eb2
  have ht2 := lt_mf hL0 hO ht1 h2.2.1 (by decide) ea2 eb2
  have hn2 := ln_m hL0 hO hP hn1 h2.2.1 (by decide) h2.2.2.1 (by decide) ea2 eb2 fa2 fb2
  have hb2 := lb_m hL0 hb1 h2.2.1 (by decide) ea2 eb2 fb2
  have w2 := lm_keep hL0 w1 h2.1 h2.2.1 (by decide) ea2 eb2
  refine g_pop C dL_law_479 rfl ?_
  refine g_goto C (tgt := 1344) dL_law_480 (by decide) ?_
  exact a_wide (Nat.le_succ _) (Nat.le_add_right _ 6) (hend _ _ _ w2 hb2 ht2 hn2 hf2)
set_option maxRecDepth 100000 in
set_option maxHeartbeats 4000000 in
theorem k_eat {p : Program} {l : Launch} {e : Env} {s : State} {m : MethodId} {below : List Frame} {meth : Method} {c : Code} {D : va_G} {cy : Nat → ClassId} {L LX LM : List Nat} {κ ln : Nat → Nat} {R : Nat → Nat → Option Nat} {I : Nat → Nat → Int32} {J : Nat → Nat → Int64} {ow : Nat → Nat × Nat} {x mm oo tp b N : Nat} {th trd tA tb0 tb1 tt0 tt1 rnw rkp rkt rnm rkn : Nat} {xs : Nat → Int32} (H : Lc_ p s m c D cy L b N xs) (hL : Lv_ L LX LM κ ln R ow x mm oo tp) (hO : Lo_ LX LM κ R ow x mm th trd tA tb0 tb1 tt0 tt1 rnw rkp rkt) (hP : Lpn_ LM κ R ow mm rnm rkn) {c0 : Int32} (hw : Lw_ LX LM κ R ow mm tp I (c0) (c0)) (hb0 : Lb_ R mm tp I J c0) (ht0 : Lt_ R th tb0 tb1 tt0 tt1 rnw rkp rkt I) (hn0 : Ln_ R th tt0 tt1 rkp rnm rkn I J) (hf0 : Lf_ mm tp I) {i : Nat} (hi : i + 6 ≤ N) (hN : N ≤ 3072) {cells slots : Nat} (hc1 : cells + 1 ≤ 601024) (hc2 : slots + 6 ≤ 7293034) (hend : ∀ (I2 : Nat → Nat → Int32) (J2 : Nat → Nat → Int64) (c2 : Int32), Lw_ LX LM κ R ow mm tp I2 (c2) (c2) → Lb_ R mm tp I2 J2 c2 → Lt_ R th tb0 tb1 tt0 tt1 rnw rkp rkt I2 → Ln_ R th tt0 tt1 rkp rnm rkn I2 J2 → Lf_ mm tp I2 → WG p l e room_1 s m #[Value.ref b] below meth c 7 (cells + 1) (slots + 6) (lw_Z below #[Value.ref b] s) D cy (AN_ [] s.heap.size) s.heap L κ ln R I2 J2 1344 [(4, .int (nI i)), (3, .ref oo), (2, .ref mm), (1, .ref x), (0, .ref b)] []) : WG p l e room_1 s m #[Value.ref b] below meth c 7 cells slots (lw_Z below #[Value.ref b] s) D cy (AN_ [] s.heap.size) s.heap L κ ln R I J 483 [(4, .int (nI i)), (3, .ref oo), (2, .ref mm), (1, .ref x), (0, .ref b)] [] := by
  obtain ⟨C, K, hX, hbl, hbA⟩ := H
  have hL0 := hL
  obtain ⟨hxs, hxn, hms, hmn, hdj, Wx, Wm, ⟨hx, kx⟩, ⟨hm, km⟩, ⟨hoo, koo, noo⟩, ⟨hR, htp, ktp⟩⟩ := hL
  have hcs : cells + 0 ≤ room_1.cells ∧ slots + 0 ≤ room_1.slots := ⟨show cells + 0 ≤ 601024 by omega, show slots + 0 ≤ 7293034 by omega⟩
  refine g_aload_n C 3 dL_law_483 rfl rfl ?_
  refine g_aload_n C 4 dL_law_484 rfl rfl ?_
  refine g_iload C 0 dL_law_485 rfl ?_
  refine g_iconst C (v := 1) dL_law_487 (by decide) ?_
  refine g_iadd C (v := nI (i + 1)) dL_law_488 (nI_a i 1) ?_
  refine g_sld C (v := xs (i + 1)) hX hbl hbA (xs_in hi (by decide) hN) (xs_at_ hi (by decide) hN) dL_law_489 ?_
  refine g_aload_n C 4 dL_law_490 rfl rfl ?_
  refine g_iload C 0 dL_law_491 rfl ?_
  refine g_iconst C (v := 2) dL_law_493 (by decide) ?_
  refine g_iadd C (v := nI (i + 2)) dL_law_494 (nI_a i 2) ?_
  refine g_sld C (v := xs (i + 2)) hX hbl hbA (xs_in hi (by decide) hN) (xs_at_ hi (by decide) hN) dL_law_495 ?_
  refine g_aload_n C 4 dL_law_496 rfl rfl ?_
  refine g_iload C 0 dL_law_497 rfl ?_
  refine g_iconst C (v := 3) dL_law_499 (by decide) ?_
  refine g_iadd C (v := nI (i + 3)) dL_law_500 (nI_a i 3) ?_
  refine g_sld C (v := xs (i + 3)) hX hbl hbA (xs_in hi (by decide) hN) (xs_at_ hi (by decide) hN) dL_law_501 ?_
  refine s_callVI C K hxs hxn (c_X11_eat Wx hx kx (xs (i + 1)) (xs (i + 2)) (xs (i + 3)) hw.1) hx kx (by decide) rfl v_L_57 rfl ⟨rfl, rfl⟩ ⟨Nat.le_of_ble_eq_true rfl, Nat.le_of_ble_eq_true rfl⟩ (Nat.le_of_ble_eq_true rfl) hcs dL_law_502 (st := []) rfl (fun r1 Ia1 Ja1 h1 Ib1 Jb1 ea1 eb1 fa1 fb1 => ?_)
  have hf1 := lf_x hL0 hf0 h1.2.1 (by decide) ea1 eb1
  have ht1 := lt_xf hL0 hO ht0 h1.2.1 (by decide) ea1 eb1
  have hn1 := ln_xf hL0 hO hP hn0 h1.2.1 (by decide) h1.2.2.1 (by decide) ea1 eb1 fa1 fb1
  have hb1 := lb_x hL0 hb0 h1.2.1 h1.2.2.1 (by decide) (by decide) ea1 eb1 fa1
  have w1 := lx_keep hL0 hw h1.1 h1.2.1 (by decide) ea1 eb1
  refine g_pop C dL_law_505 rfl ?_
  refine g_aload_n C 2 dL_law_506 rfl rfl ?_
  refine g_aload_n C 4 dL_law_507 rfl rfl ?_
  refine g_iload C 0 dL_law_508 rfl ?_
  refine g_iconst C (v := 1) dL_law_510 (by decide) ?_
  refine g_iadd C (v := nI (i + 1)) dL_law_511 (nI_a i 1) ?_
  refine g_sld C (v := xs (i + 1)) hX hbl hbA (xs_in hi (by decide) hN) (xs_at_ hi (by decide) hN) dL_law_512 ?_
  refine g_aload_n C 4 dL_law_513 rfl rfl ?_
  refine g_iload C 0 dL_law_514 rfl ?_
  refine g_iconst C (v := 2) dL_law_516 (by decide) ?_
  refine g_iadd C (v := nI (i + 2)) dL_law_517 (nI_a i 2) ?_
  refine g_sld C (v := xs (i + 2)) hX hbl hbA (xs_in hi (by decide) hN) (xs_at_ hi (by decide) hN) dL_law_518 ?_
  refine g_aload_n C 4 dL_law_519 rfl rfl ?_
  refine g_iload C 0 dL_law_520 rfl ?_
  refine g_iconst C (v := 3) dL_law_522 (by decide) ?_
  refine g_iadd C (v := nI (i + 3)) dL_law_523 (nI_a i 3) ?_
  refine g_sld C (v := xs (i + 3)) hX hbl hbA (xs_in hi (by decide) hN) (xs_at_ hi (by decide) hN) dL_law_524 ?_
  refine s_callVI C K hms hmn (c_X12_eat Wm hm km (xs (i + 1)) (xs (i + 2)) (xs (i + 3)) w1.2.1) hm km (by decide) rfl v_L_61 rfl ⟨rfl, rfl⟩ ⟨Nat.le_of_ble_eq_true rfl, Nat.le_of_ble_eq_true rfl⟩ (Nat.le_of_ble_eq_true rfl) hcs dL_law_525 (st := []) rfl (fun r2 Ia2 Ja2 h2 Ib2 Jb2 ea2 eb2 fa2 fb2 => ?_)
  have hf2 := lf_m hL0 hf1 h2.2.1 (by decide) ea2 eb2
  have ht2 := lt_m hL0 hO ht1 h2.2.2.2.2 h2.2.1 (by decide) ea2 eb2
  have hn2 := ln_m hL0 hO hP hn1 h2.2.1 (by decide) h2.2.2.1 (by decide) ea2 eb2 fa2 fb2
  have hb2 := lb_m hL0 hb1 h2.2.1 (by decide) ea2 eb2 fb2
  have w2 := lm_keep hL0 w1 h2.1 h2.2.1 (by decide) ea2 eb2
  refine g_pop C dL_law_528 rfl ?_
  refine g_goto C (tgt := 1344) dL_law_529 (by decide) ?_
  exact a_wide (Nat.le_succ _) (Nat.le_add_right _ 6) (hend _ _ _ w2 hb2 ht2 hn2 hf2)
set_option maxRecDepth 100000 in
set_option maxHeartbeats 4000000 in
theorem k_serve {p : Program} {l : Launch} {e : Env} {s : State} {m : MethodId} {below : List Frame} {meth : Method} {c : Code} {D : va_G} {cy : Nat → ClassId} {L LX LM : List Nat} {κ ln : Nat → Nat} {R : Nat → Nat → Option Nat} {I : Nat → Nat → Int32} {J : Nat → Nat → Int64} {ow : Nat → Nat × Nat} {x mm oo tp b N : Nat} {th trd tA tb0 tb1 tt0 tt1 rnw rkp rkt rnm rkn : Nat} {xs : Nat → Int32} (H : Lc_ p s m c D cy L b N xs) (hL : Lv_ L LX LM κ ln R ow x mm oo tp) (hO : Lo_ LX LM κ R ow x mm th trd tA tb0 tb1 tt0 tt1 rnw rkp rkt) (hP : Lpn_ LM κ R ow mm rnm rkn) {c0 : Int32} (hw : Lw_ LX LM κ R ow mm tp I (c0) (c0)) (hb0 : Lb_ R mm tp I J c0) (ht0 : Lt_ R th tb0 tb1 tt0 tt1 rnw rkp rkt I) (hn0 : Ln_ R th tt0 tt1 rkp rnm rkn I J) (hf0 : Lf_ mm tp I) {i : Nat} (hi : i + 6 ≤ N) (hN : N ≤ 3072) {cells slots : Nat} (hc1 : cells + 1 ≤ 601024) (hc2 : slots + 6 ≤ 7293034) (hend : ∀ (I2 : Nat → Nat → Int32) (J2 : Nat → Nat → Int64) (c2 : Int32), Lw_ LX LM κ R ow mm tp I2 (c2) (c2) → Lb_ R mm tp I2 J2 c2 → Lt_ R th tb0 tb1 tt0 tt1 rnw rkp rkt I2 → Ln_ R th tt0 tt1 rkp rnm rkn I2 J2 → Lf_ mm tp I2 → WG p l e room_1 s m #[Value.ref b] below meth c 7 (cells + 1) (slots + 6) (lw_Z below #[Value.ref b] s) D cy (AN_ [] s.heap.size) s.heap L κ ln R I2 J2 1344 [(4, .int (nI i)), (3, .ref oo), (2, .ref mm), (1, .ref x), (0, .ref b)] []) : WG p l e room_1 s m #[Value.ref b] below meth c 7 cells slots (lw_Z below #[Value.ref b] s) D cy (AN_ [] s.heap.size) s.heap L κ ln R I J 532 [(4, .int (nI i)), (3, .ref oo), (2, .ref mm), (1, .ref x), (0, .ref b)] [] := by
  obtain ⟨C, K, hX, hbl, hbA⟩ := H
  have hL0 := hL
  obtain ⟨hxs, hxn, hms, hmn, hdj, Wx, Wm, ⟨hx, kx⟩, ⟨hm, km⟩, ⟨hoo, koo, noo⟩, ⟨hR, htp, ktp⟩⟩ := hL
  have hcs : cells + 0 ≤ room_1.cells ∧ slots + 0 ≤ room_1.slots := ⟨show cells + 0 ≤ 601024 by omega, show slots + 0 ≤ 7293034 by omega⟩
  refine g_aload_n C 3 dL_law_532 rfl rfl ?_
  refine g_aload_n C 4 dL_law_533 rfl rfl ?_
  refine g_iload C 0 dL_law_534 rfl ?_
  refine g_iconst C (v := 1) dL_law_536 (by decide) ?_
  refine g_iadd C (v := nI (i + 1)) dL_law_537 (nI_a i 1) ?_
  refine g_sld C (v := xs (i + 1)) hX hbl hbA (xs_in hi (by decide) hN) (xs_at_ hi (by decide) hN) dL_law_538 ?_
  refine g_aload_n C 4 dL_law_539 rfl rfl ?_
  refine g_iload C 0 dL_law_540 rfl ?_
  refine g_iconst C (v := 2) dL_law_542 (by decide) ?_
  refine g_iadd C (v := nI (i + 2)) dL_law_543 (nI_a i 2) ?_
  refine g_sld C (v := xs (i + 2)) hX hbl hbA (xs_in hi (by decide) hN) (xs_at_ hi (by decide) hN) dL_law_544 ?_
  refine g_aload_n C 4 dL_law_545 rfl rfl ?_
  refine g_iload C 0 dL_law_546 rfl ?_
  refine g_iconst C (v := 3) dL_law_548 (by decide) ?_
  refine g_iadd C (v := nI (i + 3)) dL_law_549 (nI_a i 3) ?_
  refine g_sld C (v := xs (i + 3)) hX hbl hbA (xs_in hi (by decide) hN) (xs_at_ hi (by decide) hN) dL_law_550 ?_
  refine s_callVI C K hxs hxn (c_X11_serve Wx hx kx (xs (i + 1)) (xs (i + 2)) (xs (i + 3)) hw.1) hx kx (by decide) rfl v_L_62 rfl ⟨rfl, rfl⟩ ⟨Nat.le_of_ble_eq_true rfl, Nat.le_of_ble_eq_true rfl⟩ (Nat.le_of_ble_eq_true rfl) hcs dL_law_551 (st := []) rfl (fun r1 Ia1 Ja1 h1 Ib1 Jb1 ea1 eb1 fa1 fb1 => ?_)
  have hf1 := lf_x hL0 hf0 h1.2.1 (by decide) ea1 eb1
  have ht1 := lt_xf hL0 hO ht0 h1.2.1 (by decide) ea1 eb1
  have hn1 := ln_xf hL0 hO hP hn0 h1.2.1 (by decide) h1.2.2.1 (by decide) ea1 eb1 fa1 fb1
  have hb1 := lb_x hL0 hb0 h1.2.1 h1.2.2.1 (by decide) (by decide) ea1 eb1 fa1
  have w1 := lx_keep hL0 hw h1.1 h1.2.1 (by decide) ea1 eb1
  refine g_pop C dL_law_554 rfl ?_
  refine g_aload_n C 2 dL_law_555 rfl rfl ?_
  refine g_aload_n C 4 dL_law_556 rfl rfl ?_
  refine g_iload C 0 dL_law_557 rfl ?_
  refine g_iconst C (v := 1) dL_law_559 (by decide) ?_
  refine g_iadd C (v := nI (i + 1)) dL_law_560 (nI_a i 1) ?_
  refine g_sld C (v := xs (i + 1)) hX hbl hbA (xs_in hi (by decide) hN) (xs_at_ hi (by decide) hN) dL_law_561 ?_
  refine g_aload_n C 4 dL_law_562 rfl rfl ?_
  refine g_iload C 0 dL_law_563 rfl ?_
  refine g_iconst C (v := 2) dL_law_565 (by decide) ?_
  refine g_iadd C (v := nI (i + 2)) dL_law_566 (nI_a i 2) ?_
  refine g_sld C (v := xs (i + 2)) hX hbl hbA (xs_in hi (by decide) hN) (xs_at_ hi (by decide) hN) dL_law_567 ?_
  refine g_aload_n C 4 dL_law_568 rfl rfl ?_
  refine g_iload C 0 dL_law_569 rfl ?_
  refine g_iconst C (v := 3) dL_law_571 (by decide) ?_
  refine g_iadd C (v := nI (i + 3)) dL_law_572 (nI_a i 3) ?_
  refine g_sld C (v := xs (i + 3)) hX hbl hbA (xs_in hi (by decide) hN) (xs_at_ hi (by decide) hN) dL_law_573 ?_
  refine s_callVI C K hms hmn (c_X12_serve Wm hm km (xs (i + 1)) (xs (i + 2)) (xs (i + 3)) w1.2.1) hm km (by decide) rfl v_L_65 rfl ⟨rfl, rfl⟩ ⟨Nat.le_of_ble_eq_true rfl, Nat.le_of_ble_eq_true rfl⟩ (Nat.le_of_ble_eq_true rfl) hcs dL_law_574 (st := []) rfl (fun r2 Ia2 Ja2 h2 Ib2 Jb2 ea2 eb2 fa2 fb2 => ?_)
  have hf2 := lf_m hL0 hf1 h2.2.1 (by decide) ea2 eb2
  have ht2 := lt_m hL0 hO ht1 h2.2.2.2.2 h2.2.1 (by decide) ea2 eb2
  have hn2 := ln_m hL0 hO hP hn1 h2.2.1 (by decide) h2.2.2.1 (by decide) ea2 eb2 fa2 fb2
  have hb2 := lb_m hL0 hb1 h2.2.1 (by decide) ea2 eb2 fb2
  have w2 := lm_keep hL0 w1 h2.1 h2.2.1 (by decide) ea2 eb2
  refine g_pop C dL_law_577 rfl ?_
  refine g_goto C (tgt := 1344) dL_law_578 (by decide) ?_
  exact a_wide (Nat.le_succ _) (Nat.le_add_right _ 6) (hend _ _ _ w2 hb2 ht2 hn2 hf2)
set_option maxRecDepth 100000 in
set_option maxHeartbeats 4000000 in
theorem k_rise {p : Program} {l : Launch} {e : Env} {s : State} {m : MethodId} {below : List Frame} {meth : Method} {c : Code} {D : va_G} {cy : Nat → ClassId} {L LX LM : List Nat} {κ ln : Nat → Nat} {R : Nat → Nat → Option Nat} {I : Nat → Nat → Int32} {J : Nat → Nat → Int64} {ow : Nat → Nat × Nat} {x mm oo tp b N : Nat} {th trd tA tb0 tb1 tt0 tt1 rnw rkp rkt rnm rkn : Nat} {xs : Nat → Int32} (H : Lc_ p s m c D cy L b N xs) (hL : Lv_ L LX LM κ ln R ow x mm oo tp) (hO : Lo_ LX LM κ R ow x mm th trd tA tb0 tb1 tt0 tt1 rnw rkp rkt) (hP : Lpn_ LM κ R ow mm rnm rkn) {c0 : Int32} (hw : Lw_ LX LM κ R ow mm tp I (c0) (c0)) (hb0 : Lb_ R mm tp I J c0) (ht0 : Lt_ R th tb0 tb1 tt0 tt1 rnw rkp rkt I) (hn0 : Ln_ R th tt0 tt1 rkp rnm rkn I J) (hf0 : Lf_ mm tp I) {i : Nat} (hi : i + 6 ≤ N) (hN : N ≤ 3072) {cells slots : Nat} (hc1 : cells + 1 ≤ 601024) (hc2 : slots + 6 ≤ 7293034) (hend : ∀ (I2 : Nat → Nat → Int32) (J2 : Nat → Nat → Int64) (c2 : Int32), Lw_ LX LM κ R ow mm tp I2 (c2) (c2) → Lb_ R mm tp I2 J2 c2 → Lt_ R th tb0 tb1 tt0 tt1 rnw rkp rkt I2 → Ln_ R th tt0 tt1 rkp rnm rkn I2 J2 → Lf_ mm tp I2 → WG p l e room_1 s m #[Value.ref b] below meth c 7 (cells + 1) (slots + 6) (lw_Z below #[Value.ref b] s) D cy (AN_ [] s.heap.size) s.heap L κ ln R I2 J2 1344 [(4, .int (nI i)), (3, .ref oo), (2, .ref mm), (1, .ref x), (0, .ref b)] []) : WG p l e room_1 s m #[Value.ref b] below meth c 7 cells slots (lw_Z below #[Value.ref b] s) D cy (AN_ [] s.heap.size) s.heap L κ ln R I J 581 [(4, .int (nI i)), (3, .ref oo), (2, .ref mm), (1, .ref x), (0, .ref b)] [] := by
  obtain ⟨C, K, hX, hbl, hbA⟩ := H
  have hL0 := hL
  obtain ⟨hxs, hxn, hms, hmn, hdj, Wx, Wm, ⟨hx, kx⟩, ⟨hm, km⟩, ⟨hoo, koo, noo⟩, ⟨hR, htp, ktp⟩⟩ := hL
  have hcs : cells + 0 ≤ room_1.cells ∧ slots + 0 ≤ room_1.slots := ⟨show cells + 0 ≤ 601024 by omega, show slots + 0 ≤ 7293034 by omega⟩
  refine g_aload_n C 3 dL_law_581 rfl rfl ?_
  refine g_aload_n C 4 dL_law_582 rfl rfl ?_
  refine g_iload C 0 dL_law_583 rfl ?_
  refine g_iconst C (v := 1) dL_law_585 (by decide) ?_
  refine g_iadd C (v := nI (i + 1)) dL_law_586 (nI_a i 1) ?_
  refine g_sld C (v := xs (i + 1)) hX hbl hbA (xs_in hi (by decide) hN) (xs_at_ hi (by decide) hN) dL_law_587 ?_
  refine s_callVI C K hxs hxn (c_X11_rise Wx hx kx (xs (i + 1)) hw.1) hx kx (by decide) rfl v_L_66 rfl ⟨rfl, rfl⟩ ⟨Nat.le_of_ble_eq_true rfl, Nat.le_of_ble_eq_true rfl⟩ (Nat.le_of_ble_eq_true rfl) hcs dL_law_588 (st := []) rfl (fun r1 Ia1 Ja1 h1 Ib1 Jb1 ea1 eb1 fa1 fb1 => ?_)
  have hf1 := lf_x hL0 hf0 h1.2.1 (by decide) ea1 eb1
  have ht1 := lt_xf hL0 hO ht0 h1.2.1 (by decide) ea1 eb1
  have hn1 := ln_xf hL0 hO hP hn0 h1.2.1 (by decide) h1.2.2.1 (by decide) ea1 eb1 fa1 fb1
  have hb1 := lb_x hL0 hb0 h1.2.1 h1.2.2.1 (by decide) (by decide) ea1 eb1 fa1
  have w1 := lx_keep hL0 hw h1.1 h1.2.1 (by decide) ea1 eb1
  refine g_pop C dL_law_591 rfl ?_
  refine g_aload_n C 2 dL_law_592 rfl rfl ?_
  refine g_aload_n C 4 dL_law_593 rfl rfl ?_
  refine g_iload C 0 dL_law_594 rfl ?_
  refine g_iconst C (v := 1) dL_law_596 (by decide) ?_
  refine g_iadd C (v := nI (i + 1)) dL_law_597 (nI_a i 1) ?_
  refine g_sld C (v := xs (i + 1)) hX hbl hbA (xs_in hi (by decide) hN) (xs_at_ hi (by decide) hN) dL_law_598 ?_
  refine s_callVI C K hms hmn (c_X12_rise Wm hm km (xs (i + 1)) w1.2.1) hm km (by decide) rfl v_L_69 rfl ⟨rfl, rfl⟩ ⟨Nat.le_of_ble_eq_true rfl, Nat.le_of_ble_eq_true rfl⟩ (Nat.le_of_ble_eq_true rfl) hcs dL_law_599 (st := []) rfl (fun r2 Ia2 Ja2 h2 Ib2 Jb2 ea2 eb2 fa2 fb2 => ?_)
  have hf2 := lf_m hL0 hf1 h2.2.1 (by decide) ea2 eb2
  have ht2 := lt_m hL0 hO ht1 h2.2.2.2.2 h2.2.1 (by decide) ea2 eb2
  have hn2 := ln_m hL0 hO hP hn1 h2.2.1 (by decide) h2.2.2.1 (by decide) ea2 eb2 fa2 fb2
  have hb2 := lb_m hL0 hb1 h2.2.1 (by decide) ea2 eb2 fb2
  have w2 := lm_keep hL0 w1 h2.1 h2.2.1 (by decide) ea2 eb2
  refine g_pop C dL_law_602 rfl ?_
  refine g_goto C (tgt := 1344) dL_law_603 (by decide) ?_
  exact a_wide (Nat.le_succ _) (Nat.le_add_right _ 6) (hend _ _ _ w2 hb2 ht2 hn2 hf2)
set_option maxRecDepth 100000 in
set_option maxHeartbeats 4000000 in
theorem k_refuse {p : Program} {l : Launch} {e : Env} {s : State} {m : MethodId} {below : List Frame} {meth : Method} {c : Code} {D : va_G} {cy : Nat → ClassId} {L LX LM : List Nat} {κ ln : Nat → Nat} {R : Nat → Nat → Option Nat} {I : Nat → Nat → Int32} {J : Nat → Nat → Int64} {ow : Nat → Nat × Nat} {x mm oo tp b N : Nat} {th trd tA tb0 tb1 tt0 tt1 rnw rkp rkt rnm rkn : Nat} {xs : Nat → Int32} (H : Lc_ p s m c D cy L b N xs) (hL : Lv_ L LX LM κ ln R ow x mm oo tp) (hO : Lo_ LX LM κ R ow x mm th trd tA tb0 tb1 tt0 tt1 rnw rkp rkt) (hP : Lpn_ LM κ R ow mm rnm rkn) {c0 : Int32} (hw : Lw_ LX LM κ R ow mm tp I (c0) (c0)) (hb0 : Lb_ R mm tp I J c0) (ht0 : Lt_ R th tb0 tb1 tt0 tt1 rnw rkp rkt I) (hn0 : Ln_ R th tt0 tt1 rkp rnm rkn I J) (hf0 : Lf_ mm tp I) {i : Nat} (hi : i + 6 ≤ N) (hN : N ≤ 3072) {cells slots : Nat} (hc1 : cells + 1 ≤ 601024) (hc2 : slots + 6 ≤ 7293034) (hend : ∀ (I2 : Nat → Nat → Int32) (J2 : Nat → Nat → Int64) (c2 : Int32), Lw_ LX LM κ R ow mm tp I2 (c2) (c2) → Lb_ R mm tp I2 J2 c2 → Lt_ R th tb0 tb1 tt0 tt1 rnw rkp rkt I2 → Ln_ R th tt0 tt1 rkp rnm rkn I2 J2 → Lf_ mm tp I2 → WG p l e room_1 s m #[Value.ref b] below meth c 7 (cells + 1) (slots + 6) (lw_Z below #[Value.ref b] s) D cy (AN_ [] s.heap.size) s.heap L κ ln R I2 J2 1344 [(4, .int (nI i)), (3, .ref oo), (2, .ref mm), (1, .ref x), (0, .ref b)] []) : WG p l e room_1 s m #[Value.ref b] below meth c 7 cells slots (lw_Z below #[Value.ref b] s) D cy (AN_ [] s.heap.size) s.heap L κ ln R I J 606 [(4, .int (nI i)), (3, .ref oo), (2, .ref mm), (1, .ref x), (0, .ref b)] [] := by
  obtain ⟨C, K, hX, hbl, hbA⟩ := H
  have hL0 := hL
  obtain ⟨hxs, hxn, hms, hmn, hdj, Wx, Wm, ⟨hx, kx⟩, ⟨hm, km⟩, ⟨hoo, koo, noo⟩, ⟨hR, htp, ktp⟩⟩ := hL
  have hcs : cells + 0 ≤ room_1.cells ∧ slots + 0 ≤ room_1.slots := ⟨show cells + 0 ≤ 601024 by omega, show slots + 0 ≤ 7293034 by omega⟩
  refine g_aload_n C 3 dL_law_606 rfl rfl ?_
  refine g_aload_n C 4 dL_law_607 rfl rfl ?_
  refine g_iload C 0 dL_law_608 rfl ?_
  refine g_iconst C (v := 1) dL_law_610 (by decide) ?_
  refine g_iadd C (v := nI (i + 1)) dL_law_611 (nI_a i 1) ?_
  refine g_sld C (v := xs (i + 1)) hX hbl hbA (xs_in hi (by decide) hN) (xs_at_ hi (by decide) hN) dL_law_612 ?_
  refine s_callVI C K hxs hxn (c_X11_refuse Wx hx kx (xs (i + 1)) hw.1) hx kx (by decide) rfl v_L_70 rfl ⟨rfl, rfl⟩ ⟨Nat.le_of_ble_eq_true rfl, Nat.le_of_ble_eq_true rfl⟩ (Nat.le_of_ble_eq_true rfl) hcs dL_law_613 (st := []) rfl (fun r1 Ia1 Ja1 h1 Ib1 Jb1 ea1 eb1 fa1 fb1 => ?_)
  have hf1 := lf_x hL0 hf0 h1.2.1 (by decide) ea1 eb1
  have ht1 := lt_xf hL0 hO ht0 h1.2.1 (by decide) ea1 eb1
  have hn1 := ln_xf hL0 hO hP hn0 h1.2.1 (by decide) h1.2.2.1 (by decide) ea1 eb1 fa1 fb1
  have hb1 := lb_x hL0 hb0 h1.2.1 h1.2.2.1 (by decide) (by decide) ea1 eb1 fa1
  have w1 := lx_keep hL0 hw h1.1 h1.2.1 (by decide) ea1 eb1
  refine g_pop C dL_law_616 rfl ?_
  refine g_aload_n C 2 dL_law_617 rfl rfl ?_
  refine g_aload_n C 4 dL_law_618 rfl rfl ?_
  refine g_iload C 0 dL_law_619 rfl ?_
  refine g_iconst C (v := 1) dL_law_621 (by decide) ?_
  refine g_iadd C (v := nI (i + 1)) dL_law_622 (nI_a i 1) ?_
  refine g_sld C (v := xs (i + 1)) hX hbl hbA (xs_in hi (by decide) hN) (xs_at_ hi (by decide) hN) dL_law_623 ?_
  refine s_callVI C K hms hmn (c_X12_refuse_ Wm hm km (xs (i + 1)) w1.2.1) hm km (by decide) rfl v_L_73 rfl ⟨rfl, rfl⟩ ⟨Nat.le_of_ble_eq_true rfl, Nat.le_of_ble_eq_true rfl⟩ (Nat.le_of_ble_eq_true rfl) hcs dL_law_624 (st := []) rfl (fun r2 Ia2 Ja2 h2 Ib2 Jb2 ea2 eb2 fa2 fb2 => ?_)
  have hf2 := lf_m hL0 hf1 h2.2.1 (by decide) ea2 eb2
  have ht2 := lt_m hL0 hO ht1 h2.2.2.2.2 h2.2.1 (by decide) ea2 eb2
  have hn2 := ln_m hL0 hO hP hn1 h2.2.1 (by decide) h2.2.2.1 (by decide) ea2 eb2 fa2 fb2
  have hb2 := lb_m hL0 hb1 h2.2.1 (by decide) ea2 eb2 fb2
  have w2 := lm_keep hL0 w1 h2.1 h2.2.1 (by decide) ea2 eb2
  refine g_pop C dL_law_627 rfl ?_
  refine g_goto C (tgt := 1344) dL_law_628 (by decide) ?_
  exact a_wide (Nat.le_succ _) (Nat.le_add_right _ 6) (hend _ _ _ w2 hb2 ht2 hn2 hf2)
set_option maxRecDepth 100000 in
set_option maxHeartbeats 4000000 in
theorem k_accept {p : Program} {l : Launch} {e : Env} {s : State} {m : MethodId} {below : List Frame} {meth : Method} {c : Code} {D : va_G} {cy : Nat → ClassId} {L LX LM : List Nat} {κ ln : Nat → Nat} {R : Nat → Nat → Option Nat} {I : Nat → Nat → Int32} {J : Nat → Nat → Int64} {ow : Nat → Nat × Nat} {x mm oo tp b N : Nat} {th trd tA tb0 tb1 tt0 tt1 rnw rkp rkt rnm rkn : Nat} {xs : Nat → Int32} (H : Lc_ p s m c D cy L b N xs) (hL : Lv_ L LX LM κ ln R ow x mm oo tp) (hO : Lo_ LX LM κ R ow x mm th trd tA tb0 tb1 tt0 tt1 rnw rkp rkt) (hP : Lpn_ LM κ R ow mm rnm rkn) {c0 : Int32} (hw : Lw_ LX LM κ R ow mm tp I (c0) (c0)) (hb0 : Lb_ R mm tp I J c0) (ht0 : Lt_ R th tb0 tb1 tt0 tt1 rnw rkp rkt I) (hn0 : Ln_ R th tt0 tt1 rkp rnm rkn I J) (hf0 : Lf_ mm tp I) {i : Nat} (hi : i + 6 ≤ N) (hN : N ≤ 3072) {cells slots : Nat} (hc1 : cells + 1 ≤ 601024) (hc2 : slots + 6 ≤ 7293034) (hend : ∀ (I2 : Nat → Nat → Int32) (J2 : Nat → Nat → Int64) (c2 : Int32), Lw_ LX LM κ R ow mm tp I2 (c2) (c2) → Lb_ R mm tp I2 J2 c2 → Lt_ R th tb0 tb1 tt0 tt1 rnw rkp rkt I2 → Ln_ R th tt0 tt1 rkp rnm rkn I2 J2 → Lf_ mm tp I2 → WG p l e room_1 s m #[Value.ref b] below meth c 7 (cells + 1) (slots + 6) (lw_Z below #[Value.ref b] s) D cy (AN_ [] s.heap.size) s.heap L κ ln R I2 J2 1344 [(4, .int (nI i)), (3, .ref oo), (2, .ref mm), (1, .ref x), (0, .ref b)] []) : WG p l e room_1 s m #[Value.ref b] below meth c 7 cells slots (lw_Z below #[Value.ref b] s) D cy (AN_ [] s.heap.size) s.heap L κ ln R I J 631 [(4, .int (nI i)), (3, .ref oo), (2, .ref mm), (1, .ref x), (0, .ref b)] [] := by
  obtain ⟨C, K, hX, hbl, hbA⟩ := H
  have hL0 := hL
  obtain ⟨hxs, hxn, hms, hmn, hdj, Wx, Wm, ⟨hx, kx⟩, ⟨hm, km⟩, ⟨hoo, koo, noo⟩, ⟨hR, htp, ktp⟩⟩ := hL
  have hcs : cells + 0 ≤ room_1.cells ∧ slots + 0 ≤ room_1.slots := ⟨show cells + 0 ≤ 601024 by omega, show slots + 0 ≤ 7293034 by omega⟩
  refine g_aload_n C 3 dL_law_631 rfl rfl ?_
  refine g_aload_n C 4 dL_law_632 rfl rfl ?_
  refine g_iload C 0 dL_law_633 rfl ?_
  refine g_iconst C (v := 1) dL_law_635 (by decide) ?_
  refine g_iadd C (v := nI (i + 1)) dL_law_636 (nI_a i 1) ?_
  refine g_sld C (v := xs (i + 1)) hX hbl hbA (xs_in hi (by decide) hN) (xs_at_ hi (by decide) hN) dL_law_637 ?_
  refine s_callVI C K hxs hxn (c_X11_accept Wx hx kx (xs (i + 1)) hw.1) hx kx (by decide) rfl v_L_74 rfl ⟨rfl, rfl⟩ ⟨Nat.le_of_ble_eq_true rfl, Nat.le_of_ble_eq_true rfl⟩ (Nat.le_of_ble_eq_true rfl) hcs dL_law_638 (st := []) rfl (fun r1 Ia1 Ja1 h1 Ib1 Jb1 ea1 eb1 fa1 fb1 => ?_)
  have hf1 := lf_x hL0 hf0 h1.2.1 (by decide) ea1 eb1
  have ht1 := lt_xf hL0 hO ht0 h1.2.1 (by decide) ea1 eb1
  have hn1 := ln_xf hL0 hO hP hn0 h1.2.1 (by decide) h1.2.2.1 (by decide) ea1 eb1 fa1 fb1
  have hb1 := lb_x hL0 hb0 h1.2.1 h1.2.2.1 (by decide) (by decide) ea1 eb1 fa1
  have w1 := lx_keep hL0 hw h1.1 h1.2.1 (by decide) ea1 eb1
  refine g_pop C dL_law_641 rfl ?_
  refine g_aload_n C 2 dL_law_642 rfl rfl ?_
  refine g_aload_n C 4 dL_law_643 rfl rfl ?_
  refine g_iload C 0 dL_law_644 rfl ?_
  refine g_iconst C (v := 1) dL_law_646 (by decide) ?_
  refine g_iadd C (v := nI (i + 1)) dL_law_647 (nI_a i 1) ?_
  refine g_sld C (v := xs (i + 1)) hX hbl hbA (xs_in hi (by decide) hN) (xs_at_ hi (by decide) hN) dL_law_648 ?_
  refine s_callVI C K hms hmn (c_X12_accept Wm hm km (xs (i + 1)) w1.2.1) hm km (by decide) rfl v_L_77 rfl ⟨rfl, rfl⟩ ⟨Nat.le_of_ble_eq_true rfl, Nat.le_of_ble_eq_true rfl⟩ (Nat.le_of_ble_eq_true rfl) hcs dL_law_649 (st := []) rfl (fun r2 Ia2 Ja2 h2 Ib2 Jb2 ea2 eb2 fa2 fb2 => ?_)
  have hf2 := lf_m hL0 hf1 h2.2.1 (by decide) ea2 eb2
  have ht2 := lt_m hL0 hO ht1 h2.2.2.2.2 h2.2.1 (by decide) ea2 eb2
  have hn2 := ln_m hL0 hO hP hn1 h2.2.1 (by decide) h2.2.2.1 (by decide) ea2 eb2 fa2 fb2
  have hb2 := lb_m hL0 hb1 h2.2.1 (by decide) ea2 eb2 fb2
  have w2 := lm_keep hL0 w1 h2.1 h2.2.1 (by decide) ea2 eb2
  refine g_pop C dL_law_652 rfl ?_
  refine g_goto C (tgt := 1344) dL_law_653 (by decide) ?_
  exact a_wide (Nat.le_succ _) (Nat.le_add_right _ 6) (hend _ _ _ w2 hb2 ht2 hn2 hf2)
set_option maxRecDepth 100000 in
set_option maxHeartbeats 4000000 in
theorem k_die {p : Program} {l : Launch} {e : Env} {s : State} {m : MethodId} {below : List Frame} {meth : Method} {c : Code} {D : va_G} {cy : Nat → ClassId} {L LX LM : List Nat} {κ ln : Nat → Nat} {R : Nat → Nat → Option Nat} {I : Nat → Nat → Int32} {J : Nat → Nat → Int64} {ow : Nat → Nat × Nat} {x mm oo tp b N : Nat} {th trd tA tb0 tb1 tt0 tt1 rnw rkp rkt rnm rkn : Nat} {xs : Nat → Int32} (H : Lc_ p s m c D cy L b N xs) (hL : Lv_ L LX LM κ ln R ow x mm oo tp) (hO : Lo_ LX LM κ R ow x mm th trd tA tb0 tb1 tt0 tt1 rnw rkp rkt) (hP : Lpn_ LM κ R ow mm rnm rkn) {c0 : Int32} (hw : Lw_ LX LM κ R ow mm tp I (c0) (c0)) (hb0 : Lb_ R mm tp I J c0) (ht0 : Lt_ R th tb0 tb1 tt0 tt1 rnw rkp rkt I) (hn0 : Ln_ R th tt0 tt1 rkp rnm rkn I J) (hf0 : Lf_ mm tp I) {i : Nat} (hi : i + 6 ≤ N) (hN : N ≤ 3072) {cells slots : Nat} (hc1 : cells + 1 ≤ 601024) (hc2 : slots + 6 ≤ 7293034) (hend : ∀ (I2 : Nat → Nat → Int32) (J2 : Nat → Nat → Int64) (c2 : Int32), Lw_ LX LM κ R ow mm tp I2 (c2) (c2) → Lb_ R mm tp I2 J2 c2 → Lt_ R th tb0 tb1 tt0 tt1 rnw rkp rkt I2 → Ln_ R th tt0 tt1 rkp rnm rkn I2 J2 → Lf_ mm tp I2 → WG p l e room_1 s m #[Value.ref b] below meth c 7 (cells + 1) (slots + 6) (lw_Z below #[Value.ref b] s) D cy (AN_ [] s.heap.size) s.heap L κ ln R I2 J2 1344 [(4, .int (nI i)), (3, .ref oo), (2, .ref mm), (1, .ref x), (0, .ref b)] []) : WG p l e room_1 s m #[Value.ref b] below meth c 7 cells slots (lw_Z below #[Value.ref b] s) D cy (AN_ [] s.heap.size) s.heap L κ ln R I J 656 [(4, .int (nI i)), (3, .ref oo), (2, .ref mm), (1, .ref x), (0, .ref b)] [] := by
  obtain ⟨C, K, hX, hbl, hbA⟩ := H
  have hL0 := hL
  obtain ⟨hxs, hxn, hms, hmn, hdj, Wx, Wm, ⟨hx, kx⟩, ⟨hm, km⟩, ⟨hoo, koo, noo⟩, ⟨hR, htp, ktp⟩⟩ := hL
  have hcs : cells + 0 ≤ room_1.cells ∧ slots + 0 ≤ room_1.slots := ⟨show cells + 0 ≤ 601024 by omega, show slots + 0 ≤ 7293034 by omega⟩
  refine g_aload_n C 3 dL_law_656 rfl rfl ?_
  refine g_aload_n C 4 dL_law_657 rfl rfl ?_
  refine g_iload C 0 dL_law_658 rfl ?_
  refine g_iconst C (v := 1) dL_law_660 (by decide) ?_
  refine g_iadd C (v := nI (i + 1)) dL_law_661 (nI_a i 1) ?_
  refine g_sld C (v := xs (i + 1)) hX hbl hbA (xs_in hi (by decide) hN) (xs_at_ hi (by decide) hN) dL_law_662 ?_
  refine s_callVI C K hxs hxn (c_X11_die Wx hx kx (xs (i + 1)) hw.1) hx kx (by decide) rfl v_L_78 rfl ⟨rfl, rfl⟩ ⟨Nat.le_of_ble_eq_true rfl, Nat.le_of_ble_eq_true rfl⟩ (Nat.le_of_ble_eq_true rfl) hcs dL_law_663 (st := []) rfl (fun r1 Ia1 Ja1 h1 Ib1 Jb1 ea1 eb1 fa1 fb1 => ?_)
  have hf1 := lf_x hL0 hf0 h1.2.1 (by decide) ea1 eb1
  have ht1 := lt_xf hL0 hO ht0 h1.2.1 (by decide) ea1 eb1
  have hn1 := ln_xf hL0 hO hP hn0 h1.2.1 (by decide) h1.2.2.1 (by decide) ea1 eb1 fa1 fb1
  have hb1 := lb_x hL0 hb0 h1.2.1 h1.2.2.1 (by decide) (by decide) ea1 eb1 fa1
  have w1 := lx_keep hL0 hw h1.1 h1.2.1 (by decide) ea1 eb1
  refine g_pop C dL_law_666 rfl ?_
  refine g_aload_n C 2 dL_law_667 rfl rfl ?_
  refine g_aload_n C 4 dL_law_668 rfl rfl ?_
  refine g_iload C 0 dL_law_669 rfl ?_
  refine g_iconst C (v := 1) dL_law_671 (by decide) ?_
  refine g_iadd C (v := nI (i + 1)) dL_law_672 (nI_a i 1) ?_
  refine g_sld C (v := xs (i + 1)) hX hbl hbA (xs_in hi (by decide) hN) (xs_at_ hi (by decide) hN) dL_law_673 ?_
  refine s_callVI C K hms hmn (c_X12_die Wm hm km (xs (i + 1)) w1.2.1) hm km (by decide) rfl v_L_81 rfl ⟨rfl, rfl⟩ ⟨Nat.le_of_ble_eq_true rfl, Nat.le_of_ble_eq_true rfl⟩ (Nat.le_of_ble_eq_true rfl) hcs dL_law_674 (st := []) rfl (fun r2 Ia2 Ja2 h2 Ib2 Jb2 ea2 eb2 fa2 fb2 => ?_)
  have hf2 := lf_m hL0 hf1 h2.2.1 (by decide) ea2 eb2
  have ht2 := lt_m hL0 hO ht1 h2.2.2.2.2 h2.2.1 (by decide) ea2 eb2
  have hn2 := ln_m hL0 hO hP hn1 h2.2.1 (by decide) h2.2.2.1 (by decide) ea2 eb2 fa2 fb2
  have hb2 := lb_m hL0 hb1 h2.2.1 (by decide) ea2 eb2 fb2
  have w2 := lm_keep hL0 w1 h2.1 h2.2.1 (by decide) ea2 eb2
  refine g_pop C dL_law_677 rfl ?_
  refine g_goto C (tgt := 1344) dL_law_678 (by decide) ?_
  exact a_wide (Nat.le_succ _) (Nat.le_add_right _ 6) (hend _ _ _ w2 hb2 ht2 hn2 hf2)
set_option maxRecDepth 100000 in
set_option maxHeartbeats 4000000 in
theorem k_meals {p : Program} {l : Launch} {e : Env} {s : State} {m : MethodId} {below : List Frame} {meth : Method} {c : Code} {D : va_G} {cy : Nat → ClassId} {L LX LM : List Nat} {κ ln : Nat → Nat} {R : Nat → Nat → Option Nat} {I : Nat → Nat → Int32} {J : Nat → Nat → Int64} {ow : Nat → Nat × Nat} {x mm oo tp b N : Nat} {th trd tA tb0 tb1 tt0 tt1 rnw rkp rkt rnm rkn : Nat} {xs : Nat → Int32} (H : Lc_ p s m c D cy L b N xs) (hL : Lv_ L LX LM κ ln R ow x mm oo tp) (hO : Lo_ LX LM κ R ow x mm th trd tA tb0 tb1 tt0 tt1 rnw rkp rkt) (hP : Lpn_ LM κ R ow mm rnm rkn) {c0 : Int32} (hw : Lw_ LX LM κ R ow mm tp I (c0) (c0)) (hb0 : Lb_ R mm tp I J c0) (ht0 : Lt_ R th tb0 tb1 tt0 tt1 rnw rkp rkt I) (hn0 : Ln_ R th tt0 tt1 rkp rnm rkn I J) (hf0 : Lf_ mm tp I) {i : Nat} (hi : i + 6 ≤ N) (hN : N ≤ 3072) {cells slots : Nat} (hc1 : cells + 1 ≤ 601024) (hc2 : slots + 6 ≤ 7293034) (hend : ∀ (I2 : Nat → Nat → Int32) (J2 : Nat → Nat → Int64) (c2 : Int32), Lw_ LX LM κ R ow mm tp I2 (c2) (c2) → Lb_ R mm tp I2 J2 c2 → Lt_ R th tb0 tb1 tt0 tt1 rnw rkp rkt I2 → Ln_ R th tt0 tt1 rkp rnm rkn I2 J2 → Lf_ mm tp I2 → WG p l e room_1 s m #[Value.ref b] below meth c 7 (cells + 1) (slots + 6) (lw_Z below #[Value.ref b] s) D cy (AN_ [] s.heap.size) s.heap L κ ln R I2 J2 1344 [(4, .int (nI i)), (3, .ref oo), (2, .ref mm), (1, .ref x), (0, .ref b)] []) : WG p l e room_1 s m #[Value.ref b] below meth c 7 cells slots (lw_Z below #[Value.ref b] s) D cy (AN_ [] s.heap.size) s.heap L κ ln R I J 681 [(4, .int (nI i)), (3, .ref oo), (2, .ref mm), (1, .ref x), (0, .ref b)] [] := by
  obtain ⟨C, K, hX, hbl, hbA⟩ := H
  have hL0 := hL
  obtain ⟨hxs, hxn, hms, hmn, hdj, Wx, Wm, ⟨hx, kx⟩, ⟨hm, km⟩, ⟨hoo, koo, noo⟩, ⟨hR, htp, ktp⟩⟩ := hL
  have hcs : cells + 0 ≤ room_1.cells ∧ slots + 0 ≤ room_1.slots := ⟨show cells + 0 ≤ 601024 by omega, show slots + 0 ≤ 7293034 by omega⟩
  refine g_aload_n C 3 dL_law_681 rfl rfl ?_
  refine g_aload_n C 4 dL_law_682 rfl rfl ?_
  refine g_iload C 0 dL_law_683 rfl ?_
  refine g_iconst C (v := 1) dL_law_685 (by decide) ?_
  refine g_iadd C (v := nI (i + 1)) dL_law_686 (nI_a i 1) ?_
  refine g_sld C (v := xs (i + 1)) hX hbl hbA (xs_in hi (by decide) hN) (xs_at_ hi (by decide) hN) dL_law_687 ?_
  refine s_callVI C K hxs hxn (c_X11_meals Wx hx kx (xs (i + 1)) hw.1) hx kx (by decide) rfl v_L_82 rfl ⟨rfl, rfl⟩ ⟨Nat.le_of_ble_eq_true rfl, Nat.le_of_ble_eq_true rfl⟩ (Nat.le_of_ble_eq_true rfl) hcs dL_law_688 (st := []) rfl (fun r1 Ia1 Ja1 h1 Ib1 Jb1 ea1 eb1 fa1 fb1 => ?_)
  have hf1 := lf_x hL0 hf0 h1.2.1 (by decide) ea1 eb1
  have ht1 := lt_xf hL0 hO ht0 h1.2.1 (by decide) ea1 eb1
  have hn1 := ln_xf hL0 hO hP hn0 h1.2.1 (by decide) h1.2.2.1 (by decide) ea1 eb1 fa1 fb1
  have hb1 := lb_x hL0 hb0 h1.2.1 h1.2.2.1 (by decide) (by decide) ea1 eb1 fa1
  have w1 := lx_keep hL0 hw h1.1 h1.2.1 (by decide) ea1 eb1
  refine g_pop C dL_law_691 rfl ?_
  refine g_aload_n C 2 dL_law_692 rfl rfl ?_
  refine g_aload_n C 4 dL_law_693 rfl rfl ?_
  refine g_iload C 0 dL_law_694 rfl ?_
  refine g_iconst C (v := 1) dL_law_696 (by decide) ?_
  refine g_iadd C (v := nI (i + 1)) dL_law_697 (nI_a i 1) ?_
  refine g_sld C (v := xs (i + 1)) hX hbl hbA (xs_in hi (by decide) hN) (xs_at_ hi (by decide) hN) dL_law_698 ?_
  refine s_callVI C K hms hmn (c_X12_meals Wm hm km (xs (i + 1)) w1.2.1) hm km (by decide) rfl v_L_85 rfl ⟨rfl, rfl⟩ ⟨Nat.le_of_ble_eq_true rfl, Nat.le_of_ble_eq_true rfl⟩ (Nat.le_of_ble_eq_true rfl) hcs dL_law_699 (st := []) rfl (fun r2 Ia2 Ja2 h2 Ib2 Jb2 ea2 eb2 fa2 fb2 => ?_)
  have hf2 := lf_m hL0 hf1 h2.2.1 (by decide) ea2 eb2
  have ht2 := lt_m hL0 hO ht1 h2.2.2.2.2 h2.2.1 (by decide) ea2 eb2
  have hn2 := ln_m hL0 hO hP hn1 h2.2.1 (by decide) h2.2.2.1 (by decide) ea2 eb2 fa2 fb2
  have hb2 := lb_m hL0 hb1 h2.2.1 (by decide) ea2 eb2 fb2
  have w2 := lm_keep hL0 w1 h2.1 h2.2.1 (by decide) ea2 eb2
  refine g_pop C dL_law_702 rfl ?_
  refine g_goto C (tgt := 1344) dL_law_703 (by decide) ?_
  exact a_wide (Nat.le_succ _) (Nat.le_add_right _ 6) (hend _ _ _ w2 hb2 ht2 hn2 hf2)
set_option maxRecDepth 100000 in
set_option maxHeartbeats 4000000 in
theorem k_undo {p : Program} {l : Launch} {e : Env} {s : State} {m : MethodId} {below : List Frame} {meth : Method} {c : Code} {D : va_G} {cy : Nat → ClassId} {L LX LM : List Nat} {κ ln : Nat → Nat} {R : Nat → Nat → Option Nat} {I : Nat → Nat → Int32} {J : Nat → Nat → Int64} {ow : Nat → Nat × Nat} {x mm oo tp b N : Nat} {th trd tA tb0 tb1 tt0 tt1 rnw rkp rkt rnm rkn : Nat} {xs : Nat → Int32} (H : Lc_ p s m c D cy L b N xs) (hL : Lv_ L LX LM κ ln R ow x mm oo tp) (hO : Lo_ LX LM κ R ow x mm th trd tA tb0 tb1 tt0 tt1 rnw rkp rkt) (hP : Lpn_ LM κ R ow mm rnm rkn) {c0 : Int32} (hw : Lw_ LX LM κ R ow mm tp I (c0) (c0)) (hb0 : Lb_ R mm tp I J c0) (ht0 : Lt_ R th tb0 tb1 tt0 tt1 rnw rkp rkt I) (hn0 : Ln_ R th tt0 tt1 rkp rnm rkn I J) (hf0 : Lf_ mm tp I) {i : Nat} (hi : i + 6 ≤ N) (hN : N ≤ 3072) {cells slots : Nat} (hc1 : cells + 1 ≤ 601024) (hc2 : slots + 6 ≤ 7293034) (hend : ∀ (I2 : Nat → Nat → Int32) (J2 : Nat → Nat → Int64) (c2 : Int32), Lw_ LX LM κ R ow mm tp I2 (c2) (c2) → Lb_ R mm tp I2 J2 c2 → Lt_ R th tb0 tb1 tt0 tt1 rnw rkp rkt I2 → Ln_ R th tt0 tt1 rkp rnm rkn I2 J2 → Lf_ mm tp I2 → WG p l e room_1 s m #[Value.ref b] below meth c 7 (cells + 1) (slots + 6) (lw_Z below #[Value.ref b] s) D cy (AN_ [] s.heap.size) s.heap L κ ln R I2 J2 1344 [(4, .int (nI i)), (3, .ref oo), (2, .ref mm), (1, .ref x), (0, .ref b)] []) : WG p l e room_1 s m #[Value.ref b] below meth c 7 cells slots (lw_Z below #[Value.ref b] s) D cy (AN_ [] s.heap.size) s.heap L κ ln R I J 706 [(4, .int (nI i)), (3, .ref oo), (2, .ref mm), (1, .ref x), (0, .ref b)] [] := by
  obtain ⟨C, K, hX, hbl, hbA⟩ := H
  have hL0 := hL
  obtain ⟨hxs, hxn, hms, hmn, hdj, Wx, Wm, ⟨hx, kx⟩, ⟨hm, km⟩, ⟨hoo, koo, noo⟩, ⟨hR, htp, ktp⟩⟩ := hL
  have hcs : cells + 0 ≤ room_1.cells ∧ slots + 0 ≤ room_1.slots := ⟨show cells + 0 ≤ 601024 by omega, show slots + 0 ≤ 7293034 by omega⟩
  refine g_aload_n C 3 dL_law_706 rfl rfl ?_
  refine s_callVI C K hxs hxn (c_X11_undo Wx hx kx hw.1) hx kx (by decide) rfl v_L_86 rfl ⟨rfl, rfl⟩ ⟨Nat.le_of_ble_eq_true rfl, Nat.le_of_ble_eq_true rfl⟩ (Nat.le_of_ble_eq_true rfl) hcs dL_law_707 (st := []) rfl (fun r1 Ia1 Ja1 h1 Ib1 Jb1 ea1 eb1 fa1 fb1 => ?_)
  have hf1 := lf_x hL0 hf0 h1.2.1 (by decide) ea1 eb1
  have ht1 := lt_xf hL0 hO ht0 h1.2.1 (by decide) ea1 eb1
  have hn1 := ln_xf hL0 hO hP hn0 h1.2.1 (by decide) h1.2.2.1 (by decide) ea1 eb1 fa1 fb1
  have hb1 := lb_x hL0 hb0 h1.2.1 h1.2.2.1 (by decide) (by decide) ea1 eb1 fa1
  have w1 := lx_keep hL0 hw h1.1 h1.2.1 (by decide) ea1 eb1
  refine g_pop C dL_law_710 rfl ?_
  refine g_aload_n C 2 dL_law_711 rfl rfl ?_
  refine s_callVI C K hms hmn (c_X12_undo Wm hm km w1.2.1) hm km (by decide) rfl v_L_89 rfl ⟨rfl, rfl⟩ ⟨Nat.le_of_ble_eq_true rfl, Nat.le_of_ble_eq_true rfl⟩ (Nat.le_of_ble_eq_true rfl) hcs dL_law_712 (st := []) rfl (fun r2 Ia2 Ja2 h2 Ib2 Jb2 ea2 eb2 fa2 fb2 => ?_)
  have hf2 := lf_m hL0 hf1 h2.2.1 (by decide) ea2 eb2
  have ht2 := lt_m hL0 hO ht1 h2.2.2.2.2 h2.2.1 (by decide) ea2 eb2
  have hn2 := ln_m hL0 hO hP hn1 h2.2.1 (by decide) h2.2.2.1 (by decide) ea2 eb2 fa2 fb2
  have hb2 := lb_m hL0 hb1 h2.2.1 (by decide) ea2 eb2 fb2
  have w2 := lm_keep hL0 w1 h2.1 h2.2.1 (by decide) ea2 eb2
  refine g_pop C dL_law_715 rfl ?_
  refine g_goto C (tgt := 1344) dL_law_716 (by decide) ?_
  exact a_wide (Nat.le_succ _) (Nat.le_add_right _ 6) (hend _ _ _ w2 hb2 ht2 hn2 hf2)
set_option maxRecDepth 100000 in
set_option maxHeartbeats 4000000 in
theorem k_heir {p : Program} {l : Launch} {e : Env} {s : State} {m : MethodId} {below : List Frame} {meth : Method} {c : Code} {D : va_G} {cy : Nat → ClassId} {L LX LM : List Nat} {κ ln : Nat → Nat} {R : Nat → Nat → Option Nat} {I : Nat → Nat → Int32} {J : Nat → Nat → Int64} {ow : Nat → Nat × Nat} {x mm oo tp b N : Nat} {th trd tA tb0 tb1 tt0 tt1 rnw rkp rkt rnm rkn : Nat} {xs : Nat → Int32} (H : Lc_ p s m c D cy L b N xs) (hL : Lv_ L LX LM κ ln R ow x mm oo tp) (hO : Lo_ LX LM κ R ow x mm th trd tA tb0 tb1 tt0 tt1 rnw rkp rkt) (hP : Lpn_ LM κ R ow mm rnm rkn) {c0 : Int32} (hw : Lw_ LX LM κ R ow mm tp I (c0) (c0)) (hb0 : Lb_ R mm tp I J c0) (ht0 : Lt_ R th tb0 tb1 tt0 tt1 rnw rkp rkt I) (hn0 : Ln_ R th tt0 tt1 rkp rnm rkn I J) (hf0 : Lf_ mm tp I) {i : Nat} (hi : i + 6 ≤ N) (hN : N ≤ 3072) {cells slots : Nat} (hc1 : cells + 1 ≤ 601024) (hc2 : slots + 6 ≤ 7293034) (hend : ∀ (I2 : Nat → Nat → Int32) (J2 : Nat → Nat → Int64) (c2 : Int32), Lw_ LX LM κ R ow mm tp I2 (c2) (c2) → Lb_ R mm tp I2 J2 c2 → Lt_ R th tb0 tb1 tt0 tt1 rnw rkp rkt I2 → Ln_ R th tt0 tt1 rkp rnm rkn I2 J2 → Lf_ mm tp I2 → WG p l e room_1 s m #[Value.ref b] below meth c 7 (cells + 1) (slots + 6) (lw_Z below #[Value.ref b] s) D cy (AN_ [] s.heap.size) s.heap L κ ln R I2 J2 1344 [(4, .int (nI i)), (3, .ref oo), (2, .ref mm), (1, .ref x), (0, .ref b)] []) : WG p l e room_1 s m #[Value.ref b] below meth c 7 cells slots (lw_Z below #[Value.ref b] s) D cy (AN_ [] s.heap.size) s.heap L κ ln R I J 719 [(4, .int (nI i)), (3, .ref oo), (2, .ref mm), (1, .ref x), (0, .ref b)] [] := by
  obtain ⟨C, K, hX, hbl, hbA⟩ := H
  have hL0 := hL
  obtain ⟨hxs, hxn, hms, hmn, hdj, Wx, Wm, ⟨hx, kx⟩, ⟨hm, km⟩, ⟨hoo, koo, noo⟩, ⟨hR, htp, ktp⟩⟩ := hL
  have hcs : cells + 0 ≤ room_1.cells ∧ slots + 0 ≤ room_1.slots := ⟨show cells + 0 ≤ 601024 by omega, show slots + 0 ≤ 7293034 by omega⟩
  refine g_aload_n C 3 dL_law_719 rfl rfl ?_
  refine g_aload_n C 4 dL_law_720 rfl rfl ?_
  refine g_iload C 0 dL_law_721 rfl ?_
  refine g_iconst C (v := 1) dL_law_723 (by decide) ?_
  refine g_iadd C (v := nI (i + 1)) dL_law_724 (nI_a i 1) ?_
  refine g_sld C (v := xs (i + 1)) hX hbl hbA (xs_in hi (by decide) hN) (xs_at_ hi (by decide) hN) dL_law_725 ?_
  refine s_callVI C K hxs hxn (c_X11_heir Wx hx kx (xs (i + 1)) hw.1) hx kx (by decide) rfl v_L_90 rfl ⟨rfl, rfl⟩ ⟨Nat.le_of_ble_eq_true rfl, Nat.le_of_ble_eq_true rfl⟩ (Nat.le_of_ble_eq_true rfl) hcs dL_law_726 (st := []) rfl (fun r1 Ia1 Ja1 h1 Ib1 Jb1 ea1 eb1 fa1 fb1 => ?_)
  have hf1 := lf_xp hL0 hf0 h1.1 ea1 eb1
  have ht1 := lt_xp hL0 hO ht0 h1.1 ea1 eb1
  have hn1 := ln_xp hL0 hO hP hn0 h1.1 h1.2.1 ea1 eb1 fa1 fb1
  have hb1 := lb_xp hL0 hb0 h1.1 h1.2.1 ea1 eb1 fa1
  have w1 := lx_pure hL0 hw h1.1 ea1 eb1
  refine g_pop C dL_law_729 rfl ?_
  refine g_aload_n C 2 dL_law_730 rfl rfl ?_
  refine g_aload_n C 4 dL_law_731 rfl rfl ?_
  refine g_iload C 0 dL_law_732 rfl ?_
  refine g_iconst C (v := 1) dL_law_734 (by decide) ?_
  refine g_iadd C (v := nI (i + 1)) dL_law_735 (nI_a i 1) ?_
  refine g_sld C (v := xs (i + 1)) hX hbl hbA (xs_in hi (by decide) hN) (xs_at_ hi (by decide) hN) dL_law_736 ?_
  refine s_callVI C K hms hmn (c_X12_heir Wm hm km (xs (i + 1)) w1.2.1) hm km (by decide) rfl v_L_93 rfl ⟨rfl, rfl⟩ ⟨Nat.le_of_ble_eq_true rfl, Nat.le_of_ble_eq_true rfl⟩ (Nat.le_of_ble_eq_true rfl) hcs dL_law_737 (st := []) rfl (fun r2 Ia2 Ja2 h2 Ib2 Jb2 ea2 eb2 fa2 fb2 => ?_)
  have hf2 := lf_m hL0 hf1 h2.2.1 (by decide) ea2 eb2
  have ht2 := lt_mf hL0 hO ht1 h2.2.1 (by decide) ea2 eb2
  have hn2 := ln_m hL0 hO hP hn1 h2.2.1 (by decide) h2.2.2.1 (by decide) ea2 eb2 fa2 fb2
  have hb2 := lb_m hL0 hb1 h2.2.1 (by decide) ea2 eb2 fb2
  have w2 := lm_keep hL0 w1 h2.1 h2.2.1 (by decide) ea2 eb2
  refine g_pop C dL_law_740 rfl ?_
  refine g_goto C (tgt := 1344) dL_law_741 (by decide) ?_
  exact a_wide (Nat.le_succ _) (Nat.le_add_right _ 6) (hend _ _ _ w2 hb2 ht2 hn2 hf2)
set_option maxRecDepth 100000 in
set_option maxHeartbeats 4000000 in
theorem k_line {p : Program} {l : Launch} {e : Env} {s : State} {m : MethodId} {below : List Frame} {meth : Method} {c : Code} {D : va_G} {cy : Nat → ClassId} {L LX LM : List Nat} {κ ln : Nat → Nat} {R : Nat → Nat → Option Nat} {I : Nat → Nat → Int32} {J : Nat → Nat → Int64} {ow : Nat → Nat × Nat} {x mm oo tp b N : Nat} {th trd tA tb0 tb1 tt0 tt1 rnw rkp rkt rnm rkn : Nat} {xs : Nat → Int32} (H : Lc_ p s m c D cy L b N xs) (hL : Lv_ L LX LM κ ln R ow x mm oo tp) (hO : Lo_ LX LM κ R ow x mm th trd tA tb0 tb1 tt0 tt1 rnw rkp rkt) (hP : Lpn_ LM κ R ow mm rnm rkn) {c0 : Int32} (hw : Lw_ LX LM κ R ow mm tp I (c0) (c0)) (hb0 : Lb_ R mm tp I J c0) (ht0 : Lt_ R th tb0 tb1 tt0 tt1 rnw rkp rkt I) (hn0 : Ln_ R th tt0 tt1 rkp rnm rkn I J) (hf0 : Lf_ mm tp I) {i : Nat} (hi : i + 6 ≤ N) (hN : N ≤ 3072) {cells slots : Nat} (hc1 : cells + 1 ≤ 601024) (hc2 : slots + 6 ≤ 7293034) (hend : ∀ (I2 : Nat → Nat → Int32) (J2 : Nat → Nat → Int64) (c2 : Int32), Lw_ LX LM κ R ow mm tp I2 (c2) (c2) → Lb_ R mm tp I2 J2 c2 → Lt_ R th tb0 tb1 tt0 tt1 rnw rkp rkt I2 → Ln_ R th tt0 tt1 rkp rnm rkn I2 J2 → Lf_ mm tp I2 → WG p l e room_1 s m #[Value.ref b] below meth c 7 (cells + 1) (slots + 6) (lw_Z below #[Value.ref b] s) D cy (AN_ [] s.heap.size) s.heap L κ ln R I2 J2 1344 [(4, .int (nI i)), (3, .ref oo), (2, .ref mm), (1, .ref x), (0, .ref b)] []) : WG p l e room_1 s m #[Value.ref b] below meth c 7 cells slots (lw_Z below #[Value.ref b] s) D cy (AN_ [] s.heap.size) s.heap L κ ln R I J 744 [(4, .int (nI i)), (3, .ref oo), (2, .ref mm), (1, .ref x), (0, .ref b)] [] := by
  obtain ⟨C, K, hX, hbl, hbA⟩ := H
  have hL0 := hL
  obtain ⟨hxs, hxn, hms, hmn, hdj, Wx, Wm, ⟨hx, kx⟩, ⟨hm, km⟩, ⟨hoo, koo, noo⟩, ⟨hR, htp, ktp⟩⟩ := hL
  have hcs : cells + 0 ≤ room_1.cells ∧ slots + 0 ≤ room_1.slots := ⟨show cells + 0 ≤ 601024 by omega, show slots + 0 ≤ 7293034 by omega⟩
  refine g_aload_n C 3 dL_law_744 rfl rfl ?_
  refine g_aload_n C 4 dL_law_745 rfl rfl ?_
  refine g_iload C 0 dL_law_746 rfl ?_
  refine g_iconst C (v := 1) dL_law_748 (by decide) ?_
  refine g_iadd C (v := nI (i + 1)) dL_law_749 (nI_a i 1) ?_
  refine g_sld C (v := xs (i + 1)) hX hbl hbA (xs_in hi (by decide) hN) (xs_at_ hi (by decide) hN) dL_law_750 ?_
  refine g_aload_n C 4 dL_law_751 rfl rfl ?_
  refine g_iload C 0 dL_law_752 rfl ?_
  refine g_iconst C (v := 2) dL_law_754 (by decide) ?_
  refine g_iadd C (v := nI (i + 2)) dL_law_755 (nI_a i 2) ?_
  refine g_sld C (v := xs (i + 2)) hX hbl hbA (xs_in hi (by decide) hN) (xs_at_ hi (by decide) hN) dL_law_756 ?_
  refine s_callVI C K hxs hxn (c_X11_line Wx hx kx (xs (i + 1)) (xs (i + 2)) hw.1) hx kx (by decide) rfl v_L_94 rfl ⟨rfl, rfl⟩ ⟨Nat.le_of_ble_eq_true rfl, Nat.le_of_ble_eq_true rfl⟩ (Nat.le_of_ble_eq_true rfl) hcs dL_law_757 (st := []) rfl (fun r1 Ia1 Ja1 h1 Ib1 Jb1 ea1 eb1 fa1 fb1 => ?_)
  have hf1 := lf_xp hL0 hf0 h1.1 ea1 eb1
  have ht1 := lt_xp hL0 hO ht0 h1.1 ea1 eb1
  have hn1 := ln_xp hL0 hO hP hn0 h1.1 h1.2.1 ea1 eb1 fa1 fb1
  have hb1 := lb_xp hL0 hb0 h1.1 h1.2.1 ea1 eb1 fa1
  have w1 := lx_pure hL0 hw h1.1 ea1 eb1
  refine g_pop C dL_law_760 rfl ?_
  refine g_aload_n C 2 dL_law_761 rfl rfl ?_
  refine g_aload_n C 4 dL_law_762 rfl rfl ?_
  refine g_iload C 0 dL_law_763 rfl ?_
  refine g_iconst C (v := 1) dL_law_765 (by decide) ?_
  refine g_iadd C (v := nI (i + 1)) dL_law_766 (nI_a i 1) ?_
  refine g_sld C (v := xs (i + 1)) hX hbl hbA (xs_in hi (by decide) hN) (xs_at_ hi (by decide) hN) dL_law_767 ?_
  refine g_aload_n C 4 dL_law_768 rfl rfl ?_
  refine g_iload C 0 dL_law_769 rfl ?_
  refine g_iconst C (v := 2) dL_law_771 (by decide) ?_
  refine g_iadd C (v := nI (i + 2)) dL_law_772 (nI_a i 2) ?_
  refine g_sld C (v := xs (i + 2)) hX hbl hbA (xs_in hi (by decide) hN) (xs_at_ hi (by decide) hN) dL_law_773 ?_
  refine s_callVI C K hms hmn (c_X12_line Wm hm km (xs (i + 1)) (xs (i + 2)) w1.2.1) hm km (by decide) rfl v_L_97 rfl ⟨rfl, rfl⟩ ⟨Nat.le_of_ble_eq_true rfl, Nat.le_of_ble_eq_true rfl⟩ (Nat.le_of_ble_eq_true rfl) hcs dL_law_774 (st := []) rfl (fun r2 Ia2 Ja2 h2 Ib2 Jb2 ea2 eb2 fa2 fb2 => ?_)
  have hf2 := lf_m hL0 hf1 h2.2.1 (by decide) ea2 eb2
  have ht2 := lt_mf hL0 hO ht1 h2.2.1 (by decide) ea2 eb2
  have hn2 := ln_m hL0 hO hP hn1 h2.2.1 (by decide) h2.2.2.1 (by decide) ea2 eb2 fa2 fb2
  have hb2 := lb_m hL0 hb1 h2.2.1 (by decide) ea2 eb2 fb2
  have w2 := lm_keep hL0 w1 h2.1 h2.2.1 (by decide) ea2 eb2
  refine g_pop C dL_law_777 rfl ?_
  refine g_goto C (tgt := 1344) dL_law_778 (by decide) ?_
  exact a_wide (Nat.le_succ _) (Nat.le_add_right _ 6) (hend _ _ _ w2 hb2 ht2 hn2 hf2)
set_option maxRecDepth 100000 in
set_option maxHeartbeats 4000000 in
theorem k_order {p : Program} {l : Launch} {e : Env} {s : State} {m : MethodId} {below : List Frame} {meth : Method} {c : Code} {D : va_G} {cy : Nat → ClassId} {L LX LM : List Nat} {κ ln : Nat → Nat} {R : Nat → Nat → Option Nat} {I : Nat → Nat → Int32} {J : Nat → Nat → Int64} {ow : Nat → Nat × Nat} {x mm oo tp b N : Nat} {th trd tA tb0 tb1 tt0 tt1 rnw rkp rkt rnm rkn : Nat} {xs : Nat → Int32} (H : Lc_ p s m c D cy L b N xs) (hL : Lv_ L LX LM κ ln R ow x mm oo tp) (hO : Lo_ LX LM κ R ow x mm th trd tA tb0 tb1 tt0 tt1 rnw rkp rkt) (hP : Lpn_ LM κ R ow mm rnm rkn) {c0 : Int32} (hw : Lw_ LX LM κ R ow mm tp I (c0) (c0)) (hb0 : Lb_ R mm tp I J c0) (ht0 : Lt_ R th tb0 tb1 tt0 tt1 rnw rkp rkt I) (hn0 : Ln_ R th tt0 tt1 rkp rnm rkn I J) (hf0 : Lf_ mm tp I) {i : Nat} (hi : i + 6 ≤ N) (hN : N ≤ 3072) {cells slots : Nat} (hc1 : cells + 1 ≤ 601024) (hc2 : slots + 6 ≤ 7293034) (hend : ∀ (I2 : Nat → Nat → Int32) (J2 : Nat → Nat → Int64) (c2 : Int32), Lw_ LX LM κ R ow mm tp I2 (c2) (c2) → Lb_ R mm tp I2 J2 c2 → Lt_ R th tb0 tb1 tt0 tt1 rnw rkp rkt I2 → Ln_ R th tt0 tt1 rkp rnm rkn I2 J2 → Lf_ mm tp I2 → WG p l e room_1 s m #[Value.ref b] below meth c 7 (cells + 1) (slots + 6) (lw_Z below #[Value.ref b] s) D cy (AN_ [] s.heap.size) s.heap L κ ln R I2 J2 1344 [(4, .int (nI i)), (3, .ref oo), (2, .ref mm), (1, .ref x), (0, .ref b)] []) : WG p l e room_1 s m #[Value.ref b] below meth c 7 cells slots (lw_Z below #[Value.ref b] s) D cy (AN_ [] s.heap.size) s.heap L κ ln R I J 781 [(4, .int (nI i)), (3, .ref oo), (2, .ref mm), (1, .ref x), (0, .ref b)] [] := by
  obtain ⟨C, K, hX, hbl, hbA⟩ := H
  have hL0 := hL
  obtain ⟨hxs, hxn, hms, hmn, hdj, Wx, Wm, ⟨hx, kx⟩, ⟨hm, km⟩, ⟨hoo, koo, noo⟩, ⟨hR, htp, ktp⟩⟩ := hL
  have hcs : cells + 0 ≤ room_1.cells ∧ slots + 0 ≤ room_1.slots := ⟨show cells + 0 ≤ 601024 by omega, show slots + 0 ≤ 7293034 by omega⟩
  refine g_aload_n C 3 dL_law_781 rfl rfl ?_
  refine s_callVI C K hxs hxn (c_X11_order Wx hx kx hw.1) hx kx (by decide) rfl v_L_98 rfl ⟨rfl, rfl⟩ ⟨Nat.le_of_ble_eq_true rfl, Nat.le_of_ble_eq_true rfl⟩ (Nat.le_of_ble_eq_true rfl) hcs dL_law_782 (st := []) rfl (fun r1 Ia1 Ja1 h1 Ib1 Jb1 ea1 eb1 fa1 fb1 => ?_)
  have hf1 := lf_x hL0 hf0 h1.2.1 (by decide) ea1 eb1
  have ht1 := lt_xf hL0 hO ht0 h1.2.1 (by decide) ea1 eb1
  have hn1 := ln_xf hL0 hO hP hn0 h1.2.1 (by decide) h1.2.2.1 (by decide) ea1 eb1 fa1 fb1
  have hb1 := lb_x hL0 hb0 h1.2.1 h1.2.2.1 (by decide) (by decide) ea1 eb1 fa1
  have w1 := lx_keep hL0 hw h1.1 h1.2.1 (by decide) ea1 eb1
  refine g_pop C dL_law_785 rfl ?_
  refine g_aload_n C 2 dL_law_786 rfl rfl ?_
  refine s_callVI C K hms hmn (c_X12_order Wm hm km w1.2.1) hm km (by decide) rfl v_L_101 rfl ⟨rfl, rfl⟩ ⟨Nat.le_of_ble_eq_true rfl, Nat.le_of_ble_eq_true rfl⟩ (Nat.le_of_ble_eq_true rfl) hcs dL_law_787 (st := []) rfl (fun r2 Ia2 Ja2 h2 Ib2 Jb2 ea2 eb2 fa2 fb2 => ?_)
  have hf2 := lf_m hL0 hf1 h2.2.1 (by decide) ea2 eb2
  have ht2 := lt_m hL0 hO ht1 h2.2.2.2.2 h2.2.1 (by decide) ea2 eb2
  have hn2 := ln_m hL0 hO hP hn1 h2.2.1 (by decide) h2.2.2.1 (by decide) ea2 eb2 fa2 fb2
  have hb2 := lb_m hL0 hb1 h2.2.1 (by decide) ea2 eb2 fb2
  have w2 := lm_keep hL0 w1 h2.1 h2.2.1 (by decide) ea2 eb2
  refine g_pop C dL_law_790 rfl ?_
  refine g_goto C (tgt := 1344) dL_law_791 (by decide) ?_
  exact a_wide (Nat.le_succ _) (Nat.le_add_right _ 6) (hend _ _ _ w2 hb2 ht2 hn2 hf2)
set_option maxRecDepth 100000 in
set_option maxHeartbeats 4000000 in
theorem k_orderAt {p : Program} {l : Launch} {e : Env} {s : State} {m : MethodId} {below : List Frame} {meth : Method} {c : Code} {D : va_G} {cy : Nat → ClassId} {L LX LM : List Nat} {κ ln : Nat → Nat} {R : Nat → Nat → Option Nat} {I : Nat → Nat → Int32} {J : Nat → Nat → Int64} {ow : Nat → Nat × Nat} {x mm oo tp b N : Nat} {th trd tA tb0 tb1 tt0 tt1 rnw rkp rkt rnm rkn : Nat} {xs : Nat → Int32} (H : Lc_ p s m c D cy L b N xs) (hL : Lv_ L LX LM κ ln R ow x mm oo tp) (hO : Lo_ LX LM κ R ow x mm th trd tA tb0 tb1 tt0 tt1 rnw rkp rkt) (hP : Lpn_ LM κ R ow mm rnm rkn) {c0 : Int32} (hw : Lw_ LX LM κ R ow mm tp I (c0) (c0)) (hb0 : Lb_ R mm tp I J c0) (ht0 : Lt_ R th tb0 tb1 tt0 tt1 rnw rkp rkt I) (hn0 : Ln_ R th tt0 tt1 rkp rnm rkn I J) (hf0 : Lf_ mm tp I) {i : Nat} (hi : i + 6 ≤ N) (hN : N ≤ 3072) {cells slots : Nat} (hc1 : cells + 1 ≤ 601024) (hc2 : slots + 6 ≤ 7293034) (hend : ∀ (I2 : Nat → Nat → Int32) (J2 : Nat → Nat → Int64) (c2 : Int32), Lw_ LX LM κ R ow mm tp I2 (c2) (c2) → Lb_ R mm tp I2 J2 c2 → Lt_ R th tb0 tb1 tt0 tt1 rnw rkp rkt I2 → Ln_ R th tt0 tt1 rkp rnm rkn I2 J2 → Lf_ mm tp I2 → WG p l e room_1 s m #[Value.ref b] below meth c 7 (cells + 1) (slots + 6) (lw_Z below #[Value.ref b] s) D cy (AN_ [] s.heap.size) s.heap L κ ln R I2 J2 1344 [(4, .int (nI i)), (3, .ref oo), (2, .ref mm), (1, .ref x), (0, .ref b)] []) : WG p l e room_1 s m #[Value.ref b] below meth c 7 cells slots (lw_Z below #[Value.ref b] s) D cy (AN_ [] s.heap.size) s.heap L κ ln R I J 794 [(4, .int (nI i)), (3, .ref oo), (2, .ref mm), (1, .ref x), (0, .ref b)] [] := by
  obtain ⟨C, K, hX, hbl, hbA⟩ := H
  have hL0 := hL
  obtain ⟨hxs, hxn, hms, hmn, hdj, Wx, Wm, ⟨hx, kx⟩, ⟨hm, km⟩, ⟨hoo, koo, noo⟩, ⟨hR, htp, ktp⟩⟩ := hL
  have hcs : cells + 0 ≤ room_1.cells ∧ slots + 0 ≤ room_1.slots := ⟨show cells + 0 ≤ 601024 by omega, show slots + 0 ≤ 7293034 by omega⟩
  refine g_aload_n C 3 dL_law_794 rfl rfl ?_
  refine g_aload_n C 4 dL_law_795 rfl rfl ?_
  refine g_iload C 0 dL_law_796 rfl ?_
  refine g_iconst C (v := 1) dL_law_798 (by decide) ?_
  refine g_iadd C (v := nI (i + 1)) dL_law_799 (nI_a i 1) ?_
  refine g_sld C (v := xs (i + 1)) hX hbl hbA (xs_in hi (by decide) hN) (xs_at_ hi (by decide) hN) dL_law_800 ?_
  refine s_callVI C K hxs hxn (c_X11_orderAt Wx hx kx (xs (i + 1)) hw.1) hx kx (by decide) rfl v_L_102 rfl ⟨rfl, rfl⟩ ⟨Nat.le_of_ble_eq_true rfl, Nat.le_of_ble_eq_true rfl⟩ (Nat.le_of_ble_eq_true rfl) hcs dL_law_801 (st := []) rfl (fun r1 Ia1 Ja1 h1 Ib1 Jb1 ea1 eb1 fa1 fb1 => ?_)
  have hf1 := lf_xp hL0 hf0 h1.1 ea1 eb1
  have ht1 := lt_xp hL0 hO ht0 h1.1 ea1 eb1
  have hn1 := ln_xp hL0 hO hP hn0 h1.1 h1.2.1 ea1 eb1 fa1 fb1
  have hb1 := lb_xp hL0 hb0 h1.1 h1.2.1 ea1 eb1 fa1
  have w1 := lx_pure hL0 hw h1.1 ea1 eb1
  refine g_pop C dL_law_804 rfl ?_
  refine g_aload_n C 2 dL_law_805 rfl rfl ?_
  refine g_aload_n C 4 dL_law_806 rfl rfl ?_
  refine g_iload C 0 dL_law_807 rfl ?_
  refine g_iconst C (v := 1) dL_law_809 (by decide) ?_
  refine g_iadd C (v := nI (i + 1)) dL_law_810 (nI_a i 1) ?_
  refine g_sld C (v := xs (i + 1)) hX hbl hbA (xs_in hi (by decide) hN) (xs_at_ hi (by decide) hN) dL_law_811 ?_
  refine s_callVI C K hms hmn (c_X12_orderAt Wm hm km (xs (i + 1)) w1.2.1) hm km (by decide) rfl v_L_105 rfl ⟨rfl, rfl⟩ ⟨Nat.le_of_ble_eq_true rfl, Nat.le_of_ble_eq_true rfl⟩ (Nat.le_of_ble_eq_true rfl) hcs dL_law_812 (st := []) rfl (fun r2 Ia2 Ja2 h2 Ib2 Jb2 ea2 eb2 fa2 fb2 => ?_)
  have hf2 := lf_m hL0 hf1 h2.2.1 (by decide) ea2 eb2
  have ht2 := lt_mf hL0 hO ht1 h2.2.1 (by decide) ea2 eb2
  have hn2 := ln_m hL0 hO hP hn1 h2.2.1 (by decide) h2.2.2.1 (by decide) ea2 eb2 fa2 fb2
  have hb2 := lb_m hL0 hb1 h2.2.1 (by decide) ea2 eb2 fb2
  have w2 := lm_keep hL0 w1 h2.1 h2.2.1 (by decide) ea2 eb2
  refine g_pop C dL_law_815 rfl ?_
  refine g_goto C (tgt := 1344) dL_law_816 (by decide) ?_
  exact a_wide (Nat.le_succ _) (Nat.le_add_right _ 6) (hend _ _ _ w2 hb2 ht2 hn2 hf2)
set_option maxRecDepth 100000 in
set_option maxHeartbeats 4000000 in
theorem k_eaters {p : Program} {l : Launch} {e : Env} {s : State} {m : MethodId} {below : List Frame} {meth : Method} {c : Code} {D : va_G} {cy : Nat → ClassId} {L LX LM : List Nat} {κ ln : Nat → Nat} {R : Nat → Nat → Option Nat} {I : Nat → Nat → Int32} {J : Nat → Nat → Int64} {ow : Nat → Nat × Nat} {x mm oo tp b N : Nat} {th trd tA tb0 tb1 tt0 tt1 rnw rkp rkt rnm rkn : Nat} {xs : Nat → Int32} (H : Lc_ p s m c D cy L b N xs) (hL : Lv_ L LX LM κ ln R ow x mm oo tp) (hO : Lo_ LX LM κ R ow x mm th trd tA tb0 tb1 tt0 tt1 rnw rkp rkt) (hP : Lpn_ LM κ R ow mm rnm rkn) {c0 : Int32} (hw : Lw_ LX LM κ R ow mm tp I (c0) (c0)) (hb0 : Lb_ R mm tp I J c0) (ht0 : Lt_ R th tb0 tb1 tt0 tt1 rnw rkp rkt I) (hn0 : Ln_ R th tt0 tt1 rkp rnm rkn I J) (hf0 : Lf_ mm tp I) {i : Nat} (hi : i + 6 ≤ N) (hN : N ≤ 3072) {cells slots : Nat} (hc1 : cells + 1 ≤ 601024) (hc2 : slots + 6 ≤ 7293034) (hend : ∀ (I2 : Nat → Nat → Int32) (J2 : Nat → Nat → Int64) (c2 : Int32), Lw_ LX LM κ R ow mm tp I2 (c2) (c2) → Lb_ R mm tp I2 J2 c2 → Lt_ R th tb0 tb1 tt0 tt1 rnw rkp rkt I2 → Ln_ R th tt0 tt1 rkp rnm rkn I2 J2 → Lf_ mm tp I2 → WG p l e room_1 s m #[Value.ref b] below meth c 7 (cells + 1) (slots + 6) (lw_Z below #[Value.ref b] s) D cy (AN_ [] s.heap.size) s.heap L κ ln R I2 J2 1344 [(4, .int (nI i)), (3, .ref oo), (2, .ref mm), (1, .ref x), (0, .ref b)] []) : WG p l e room_1 s m #[Value.ref b] below meth c 7 cells slots (lw_Z below #[Value.ref b] s) D cy (AN_ [] s.heap.size) s.heap L κ ln R I J 819 [(4, .int (nI i)), (3, .ref oo), (2, .ref mm), (1, .ref x), (0, .ref b)] [] := by
  obtain ⟨C, K, hX, hbl, hbA⟩ := H
  have hL0 := hL
  obtain ⟨hxs, hxn, hms, hmn, hdj, Wx, Wm, ⟨hx, kx⟩, ⟨hm, km⟩, ⟨hoo, koo, noo⟩, ⟨hR, htp, ktp⟩⟩ := hL
  have hcs : cells + 0 ≤ room_1.cells ∧ slots + 0 ≤ room_1.slots := ⟨show cells + 0 ≤ 601024 by omega, show slots + 0 ≤ 7293034 by omega⟩
  refine g_aload_n C 3 dL_law_819 rfl rfl ?_
  refine s_callVI C K hxs hxn (c_X11_eaters_e Wx hx kx hw.1) hx kx (by decide) rfl v_L_106 rfl ⟨rfl, rfl⟩ ⟨Nat.le_of_ble_eq_true rfl, Nat.le_of_ble_eq_true rfl⟩ (Nat.le_of_ble_eq_true rfl) hcs dL_law_820 (st := []) rfl (fun r1 Ia1 Ja1 h1 Ib1 Jb1 ea1 eb1 fa1 fb1 => ?_)
  have hf1 := lf_x hL0 hf0 h1.2.1 (by decide) ea1 eb1
  have ht1 := lt_xf hL0 hO ht0 h1.2.1 (by decide) ea1 eb1
  have hn1 := ln_xf hL0 hO hP hn0 h1.2.1 (by decide) h1.2.2.1 (by decide) ea1 eb1 fa1 fb1
  have hb1 := lb_x hL0 hb0 h1.2.1 h1.2.2.1 (by decide) (by decide) ea1 eb1 fa1
  have q1 : Ia1 tp 5 = 0 := h1.2.2.2.2 tp hR
  have w1 := lx_set hL0 hw h1.1 q1 ea1 eb1
  refine g_pop C dL_law_823 rfl ?_
  refine g_aload_n C 2 dL_law_824 rfl rfl ?_
  refine s_callVI C K hms hmn (c_X12_eaters_e Wm hm km w1.2.1) hm km (by decide) rfl v_L_109 rfl ⟨rfl, rfl⟩ ⟨Nat.le_of_ble_eq_true rfl, Nat.le_of_ble_eq_true rfl⟩ (Nat.le_of_ble_eq_true rfl) hcs dL_law_825 (st := []) rfl (fun r2 Ia2 Ja2 h2 Ib2 Jb2 ea2 eb2 fa2 fb2 => ?_)
  have hf2 := lf_m hL0 hf1 h2.2.1 (by decide) ea2 eb2
  have ht2 := lt_mf hL0 hO ht1 h2.2.1 (by decide) ea2 eb2
  have hn2 := ln_m hL0 hO hP hn1 h2.2.1 (by decide) h2.2.2.1 (by decide) ea2 eb2 fa2 fb2
  have hb2 := lb_m hL0 hb1 h2.2.1 (by decide) ea2 eb2 fb2
  have q2 : Ia2 mm 2 = 0 := h2.2.2.2.2
  have w2 := lm_set hL0 w1 h2.1 q2 ea2 eb2
  refine g_pop C dL_law_828 rfl ?_
  refine g_goto C (tgt := 1344) dL_law_829 (by decide) ?_
  have hb9 := lb_le hb2 (tz_le rfl (lw_0 hL0 hw).1)
  exact a_wide (Nat.le_succ _) (Nat.le_add_right _ 6) (hend _ _ _ w2 hb9 ht2 hn2 hf2)
set_option maxRecDepth 100000 in
set_option maxHeartbeats 4000000 in
theorem k_surely {p : Program} {l : Launch} {e : Env} {s : State} {m : MethodId} {below : List Frame} {meth : Method} {c : Code} {D : va_G} {cy : Nat → ClassId} {L LX LM : List Nat} {κ ln : Nat → Nat} {R : Nat → Nat → Option Nat} {I : Nat → Nat → Int32} {J : Nat → Nat → Int64} {ow : Nat → Nat × Nat} {x mm oo tp b N : Nat} {th trd tA tb0 tb1 tt0 tt1 rnw rkp rkt rnm rkn : Nat} {xs : Nat → Int32} (H : Lc_ p s m c D cy L b N xs) (hL : Lv_ L LX LM κ ln R ow x mm oo tp) (hO : Lo_ LX LM κ R ow x mm th trd tA tb0 tb1 tt0 tt1 rnw rkp rkt) (hP : Lpn_ LM κ R ow mm rnm rkn) {c0 : Int32} (hw : Lw_ LX LM κ R ow mm tp I (c0) (c0)) (hb0 : Lb_ R mm tp I J c0) (ht0 : Lt_ R th tb0 tb1 tt0 tt1 rnw rkp rkt I) (hn0 : Ln_ R th tt0 tt1 rkp rnm rkn I J) (hf0 : Lf_ mm tp I) {i : Nat} (hi : i + 6 ≤ N) (hN : N ≤ 3072) {cells slots : Nat} (hc1 : cells + 1 ≤ 601024) (hc2 : slots + 6 ≤ 7293034) (hend : ∀ (I2 : Nat → Nat → Int32) (J2 : Nat → Nat → Int64) (c2 : Int32), Lw_ LX LM κ R ow mm tp I2 (c2) (c2) → Lb_ R mm tp I2 J2 c2 → Lt_ R th tb0 tb1 tt0 tt1 rnw rkp rkt I2 → Ln_ R th tt0 tt1 rkp rnm rkn I2 J2 → Lf_ mm tp I2 → WG p l e room_1 s m #[Value.ref b] below meth c 7 (cells + 1) (slots + 6) (lw_Z below #[Value.ref b] s) D cy (AN_ [] s.heap.size) s.heap L κ ln R I2 J2 1344 [(4, .int (nI i)), (3, .ref oo), (2, .ref mm), (1, .ref x), (0, .ref b)] []) : WG p l e room_1 s m #[Value.ref b] below meth c 7 cells slots (lw_Z below #[Value.ref b] s) D cy (AN_ [] s.heap.size) s.heap L κ ln R I J 832 [(4, .int (nI i)), (3, .ref oo), (2, .ref mm), (1, .ref x), (0, .ref b)] [] := by
  obtain ⟨C, K, hX, hbl, hbA⟩ := H
  have hL0 := hL
  obtain ⟨hxs, hxn, hms, hmn, hdj, Wx, Wm, ⟨hx, kx⟩, ⟨hm, km⟩, ⟨hoo, koo, noo⟩, ⟨hR, htp, ktp⟩⟩ := hL
  have hcs : cells + 0 ≤ room_1.cells ∧ slots + 0 ≤ room_1.slots := ⟨show cells + 0 ≤ 601024 by omega, show slots + 0 ≤ 7293034 by omega⟩
  refine g_aload_n C 3 dL_law_832 rfl rfl ?_
  refine s_callVI C K hxs hxn (c_X11_surely Wx hx kx hw.1) hx kx (by decide) rfl v_L_110 rfl ⟨rfl, rfl⟩ ⟨Nat.le_of_ble_eq_true rfl, Nat.le_of_ble_eq_true rfl⟩ (Nat.le_of_ble_eq_true rfl) hcs dL_law_833 (st := []) rfl (fun r1 Ia1 Ja1 h1 Ib1 Jb1 ea1 eb1 fa1 fb1 => ?_)
  have hf1 := lf_xp hL0 hf0 h1.1 ea1 eb1
  have ht1 := lt_xp hL0 hO ht0 h1.1 ea1 eb1
  have hn1 := ln_xp hL0 hO hP hn0 h1.1 h1.2.1 ea1 eb1 fa1 fb1
  have hb1 := lb_xp hL0 hb0 h1.1 h1.2.1 ea1 eb1 fa1
  have w1 := lx_pure hL0 hw h1.1 ea1 eb1
  refine g_pop C dL_law_836 rfl ?_
  refine g_aload_n C 2 dL_law_837 rfl rfl ?_
  refine s_callVI C K hms hmn (c_X12_surely Wm hm km w1.2.1) hm km (by decide) rfl v_L_113 rfl ⟨rfl, rfl⟩ ⟨Nat.le_of_ble_eq_true rfl, Nat.le_of_ble_eq_true rfl⟩ (Nat.le_of_ble_eq_true rfl) hcs dL_law_838 (st := []) rfl (fun r2 Ia2 Ja2 h2 Ib2 Jb2 ea2 eb2 fa2 fb2 => ?_)
  have hf2 := lf_m hL0 hf1 h2.2.1 (by decide) ea2 eb2
  have ht2 := lt_mf hL0 hO ht1 h2.2.1 (by decide) ea2 eb2
  have hn2 := ln_m hL0 hO hP hn1 h2.2.1 (by decide) h2.2.2.1 (by decide) ea2 eb2 fa2 fb2
  have hb2 := lb_m hL0 hb1 h2.2.1 (by decide) ea2 eb2 fb2
  have w2 := lm_keep hL0 w1 h2.1 h2.2.1 (by decide) ea2 eb2
  refine g_pop C dL_law_841 rfl ?_
  refine g_goto C (tgt := 1344) dL_law_842 (by decide) ?_
  exact a_wide (Nat.le_succ _) (Nat.le_add_right _ 6) (hend _ _ _ w2 hb2 ht2 hn2 hf2)
set_option maxRecDepth 100000 in
set_option maxHeartbeats 4000000 in
theorem k_ask {p : Program} {l : Launch} {e : Env} {s : State} {m : MethodId} {below : List Frame} {meth : Method} {c : Code} {D : va_G} {cy : Nat → ClassId} {L LX LM : List Nat} {κ ln : Nat → Nat} {R : Nat → Nat → Option Nat} {I : Nat → Nat → Int32} {J : Nat → Nat → Int64} {ow : Nat → Nat × Nat} {x mm oo tp b N : Nat} {th trd tA tb0 tb1 tt0 tt1 rnw rkp rkt rnm rkn : Nat} {xs : Nat → Int32} (H : Lc_ p s m c D cy L b N xs) (hL : Lv_ L LX LM κ ln R ow x mm oo tp) (hO : Lo_ LX LM κ R ow x mm th trd tA tb0 tb1 tt0 tt1 rnw rkp rkt) (hP : Lpn_ LM κ R ow mm rnm rkn) {c0 : Int32} (hw : Lw_ LX LM κ R ow mm tp I (c0) (c0)) (hb0 : Lb_ R mm tp I J c0) (ht0 : Lt_ R th tb0 tb1 tt0 tt1 rnw rkp rkt I) (hn0 : Ln_ R th tt0 tt1 rkp rnm rkn I J) (hf0 : Lf_ mm tp I) {i : Nat} (hi : i + 6 ≤ N) (hN : N ≤ 3072) {cells slots : Nat} (hc1 : cells + 1 ≤ 601024) (hc2 : slots + 6 ≤ 7293034) (hend : ∀ (I2 : Nat → Nat → Int32) (J2 : Nat → Nat → Int64) (c2 : Int32), Lw_ LX LM κ R ow mm tp I2 (c2) (c2) → Lb_ R mm tp I2 J2 c2 → Lt_ R th tb0 tb1 tt0 tt1 rnw rkp rkt I2 → Ln_ R th tt0 tt1 rkp rnm rkn I2 J2 → Lf_ mm tp I2 → WG p l e room_1 s m #[Value.ref b] below meth c 7 (cells + 1) (slots + 6) (lw_Z below #[Value.ref b] s) D cy (AN_ [] s.heap.size) s.heap L κ ln R I2 J2 1344 [(4, .int (nI i)), (3, .ref oo), (2, .ref mm), (1, .ref x), (0, .ref b)] []) : WG p l e room_1 s m #[Value.ref b] below meth c 7 cells slots (lw_Z below #[Value.ref b] s) D cy (AN_ [] s.heap.size) s.heap L κ ln R I J 845 [(4, .int (nI i)), (3, .ref oo), (2, .ref mm), (1, .ref x), (0, .ref b)] [] := by
  obtain ⟨C, K, hX, hbl, hbA⟩ := H
  have hL0 := hL
  obtain ⟨hxs, hxn, hms, hmn, hdj, Wx, Wm, ⟨hx, kx⟩, ⟨hm, km⟩, ⟨hoo, koo, noo⟩, ⟨hR, htp, ktp⟩⟩ := hL
  have hcs : cells + 0 ≤ room_1.cells ∧ slots + 0 ≤ room_1.slots := ⟨show cells + 0 ≤ 601024 by omega, show slots + 0 ≤ 7293034 by omega⟩
  refine g_aload_n C 3 dL_law_845 rfl rfl ?_
  refine s_callVI C K hxs hxn (c_X11_ask Wx hx kx hw.1) hx kx (by decide) rfl v_L_114 rfl ⟨rfl, rfl⟩ ⟨Nat.le_of_ble_eq_true rfl, Nat.le_of_ble_eq_true rfl⟩ (Nat.le_of_ble_eq_true rfl) hcs dL_law_846 (st := []) rfl (fun r1 Ia1 Ja1 h1 Ib1 Jb1 ea1 eb1 fa1 fb1 => ?_)
  have hf1 := lf_xp hL0 hf0 h1.1 ea1 eb1
  have ht1 := lt_xp hL0 hO ht0 h1.1 ea1 eb1
  have hn1 := ln_xp hL0 hO hP hn0 h1.1 h1.2.1 ea1 eb1 fa1 fb1
  have hb1 := lb_xp hL0 hb0 h1.1 h1.2.1 ea1 eb1 fa1
  have w1 := lx_pure hL0 hw h1.1 ea1 eb1
  refine g_pop C dL_law_849 rfl ?_
  refine g_aload_n C 2 dL_law_850 rfl rfl ?_
  refine s_callVI C K hms hmn (c_X12_ask Wm hm km w1.2.1) hm km (by decide) rfl v_L_117 rfl ⟨rfl, rfl⟩ ⟨Nat.le_of_ble_eq_true rfl, Nat.le_of_ble_eq_true rfl⟩ (Nat.le_of_ble_eq_true rfl) hcs dL_law_851 (st := []) rfl (fun r2 Ia2 Ja2 h2 Ib2 Jb2 ea2 eb2 fa2 fb2 => ?_)
  have hf2 := lf_m hL0 hf1 h2.2.1 (by decide) ea2 eb2
  have ht2 := lt_mf hL0 hO ht1 h2.2.1 (by decide) ea2 eb2
  have hn2 := ln_m hL0 hO hP hn1 h2.2.1 (by decide) h2.2.2.1 (by decide) ea2 eb2 fa2 fb2
  have hb2 := lb_m hL0 hb1 h2.2.1 (by decide) ea2 eb2 fb2
  have w2 := lm_keep hL0 w1 h2.1 h2.2.1 (by decide) ea2 eb2
  refine g_pop C dL_law_854 rfl ?_
  refine g_goto C (tgt := 1344) dL_law_855 (by decide) ?_
  exact a_wide (Nat.le_succ _) (Nat.le_add_right _ 6) (hend _ _ _ w2 hb2 ht2 hn2 hf2)
set_option maxRecDepth 100000 in
set_option maxHeartbeats 4000000 in
theorem k_share {p : Program} {l : Launch} {e : Env} {s : State} {m : MethodId} {below : List Frame} {meth : Method} {c : Code} {D : va_G} {cy : Nat → ClassId} {L LX LM : List Nat} {κ ln : Nat → Nat} {R : Nat → Nat → Option Nat} {I : Nat → Nat → Int32} {J : Nat → Nat → Int64} {ow : Nat → Nat × Nat} {x mm oo tp b N : Nat} {th trd tA tb0 tb1 tt0 tt1 rnw rkp rkt rnm rkn : Nat} {xs : Nat → Int32} (H : Lc_ p s m c D cy L b N xs) (hL : Lv_ L LX LM κ ln R ow x mm oo tp) (hO : Lo_ LX LM κ R ow x mm th trd tA tb0 tb1 tt0 tt1 rnw rkp rkt) (hP : Lpn_ LM κ R ow mm rnm rkn) {c0 : Int32} (hw : Lw_ LX LM κ R ow mm tp I (c0) (c0)) (hb0 : Lb_ R mm tp I J c0) (ht0 : Lt_ R th tb0 tb1 tt0 tt1 rnw rkp rkt I) (hn0 : Ln_ R th tt0 tt1 rkp rnm rkn I J) (hf0 : Lf_ mm tp I) {i : Nat} (hi : i + 6 ≤ N) (hN : N ≤ 3072) {cells slots : Nat} (hc1 : cells + 1 ≤ 601024) (hc2 : slots + 6 ≤ 7293034) (hend : ∀ (I2 : Nat → Nat → Int32) (J2 : Nat → Nat → Int64) (c2 : Int32), Lw_ LX LM κ R ow mm tp I2 (c2) (c2) → Lb_ R mm tp I2 J2 c2 → Lt_ R th tb0 tb1 tt0 tt1 rnw rkp rkt I2 → Ln_ R th tt0 tt1 rkp rnm rkn I2 J2 → Lf_ mm tp I2 → WG p l e room_1 s m #[Value.ref b] below meth c 7 (cells + 1) (slots + 6) (lw_Z below #[Value.ref b] s) D cy (AN_ [] s.heap.size) s.heap L κ ln R I2 J2 1344 [(4, .int (nI i)), (3, .ref oo), (2, .ref mm), (1, .ref x), (0, .ref b)] []) : WG p l e room_1 s m #[Value.ref b] below meth c 7 cells slots (lw_Z below #[Value.ref b] s) D cy (AN_ [] s.heap.size) s.heap L κ ln R I J 858 [(4, .int (nI i)), (3, .ref oo), (2, .ref mm), (1, .ref x), (0, .ref b)] [] := by
  obtain ⟨C, K, hX, hbl, hbA⟩ := H
  have hL0 := hL
  obtain ⟨hxs, hxn, hms, hmn, hdj, Wx, Wm, ⟨hx, kx⟩, ⟨hm, km⟩, ⟨hoo, koo, noo⟩, ⟨hR, htp, ktp⟩⟩ := hL
  have hcs : cells + 0 ≤ room_1.cells ∧ slots + 0 ≤ room_1.slots := ⟨show cells + 0 ≤ 601024 by omega, show slots + 0 ≤ 7293034 by omega⟩
  refine g_aload_n C 3 dL_law_858 rfl rfl ?_
  refine g_aload_n C 4 dL_law_859 rfl rfl ?_
  refine g_iload C 0 dL_law_860 rfl ?_
  refine g_iconst C (v := 1) dL_law_862 (by decide) ?_
  refine g_iadd C (v := nI (i + 1)) dL_law_863 (nI_a i 1) ?_
  refine g_sld C (v := xs (i + 1)) hX hbl hbA (xs_in hi (by decide) hN) (xs_at_ hi (by decide) hN) dL_law_864 ?_
  refine g_aload_n C 4 dL_law_865 rfl rfl ?_
  refine g_iload C 0 dL_law_866 rfl ?_
  refine g_iconst C (v := 2) dL_law_868 (by decide) ?_
  refine g_iadd C (v := nI (i + 2)) dL_law_869 (nI_a i 2) ?_
  refine g_sld C (v := xs (i + 2)) hX hbl hbA (xs_in hi (by decide) hN) (xs_at_ hi (by decide) hN) dL_law_870 ?_
  refine g_aload_n C 4 dL_law_871 rfl rfl ?_
  refine g_iload C 0 dL_law_872 rfl ?_
  refine g_iconst C (v := 3) dL_law_874 (by decide) ?_
  refine g_iadd C (v := nI (i + 3)) dL_law_875 (nI_a i 3) ?_
  refine g_sld C (v := xs (i + 3)) hX hbl hbA (xs_in hi (by decide) hN) (xs_at_ hi (by decide) hN) dL_law_876 ?_
  refine s_callVI C K hxs hxn (c_X11_share Wx hx kx (xs (i + 1)) (xs (i + 2)) (xs (i + 3)) hw.1) hx kx (by decide) rfl v_L_118 rfl ⟨rfl, rfl⟩ ⟨Nat.le_of_ble_eq_true rfl, Nat.le_of_ble_eq_true rfl⟩ (Nat.le_of_ble_eq_true rfl) hcs dL_law_877 (st := []) rfl (fun r1 Ia1 Ja1 h1 Ib1 Jb1 ea1 eb1 fa1 fb1 => ?_)
  have hf1 := lf_xp hL0 hf0 h1.1 ea1 eb1
  have ht1 := lt_xp hL0 hO ht0 h1.1 ea1 eb1
  have hn1 := ln_xp hL0 hO hP hn0 h1.1 h1.2.1 ea1 eb1 fa1 fb1
  have hb1 := lb_xp hL0 hb0 h1.1 h1.2.1 ea1 eb1 fa1
  have w1 := lx_pure hL0 hw h1.1 ea1 eb1
  refine g_pop C dL_law_880 rfl ?_
  refine g_aload_n C 2 dL_law_881 rfl rfl ?_
  refine g_aload_n C 4 dL_law_882 rfl rfl ?_
  refine g_iload C 0 dL_law_883 rfl ?_
  refine g_iconst C (v := 1) dL_law_885 (by decide) ?_
  refine g_iadd C (v := nI (i + 1)) dL_law_886 (nI_a i 1) ?_
  refine g_sld C (v := xs (i + 1)) hX hbl hbA (xs_in hi (by decide) hN) (xs_at_ hi (by decide) hN) dL_law_887 ?_
  refine g_aload_n C 4 dL_law_888 rfl rfl ?_
  refine g_iload C 0 dL_law_889 rfl ?_
  refine g_iconst C (v := 2) dL_law_891 (by decide) ?_
  refine g_iadd C (v := nI (i + 2)) dL_law_892 (nI_a i 2) ?_
  refine g_sld C (v := xs (i + 2)) hX hbl hbA (xs_in hi (by decide) hN) (xs_at_ hi (by decide) hN) dL_law_893 ?_
  refine g_aload_n C 4 dL_law_894 rfl rfl ?_
  refine g_iload C 0 dL_law_895 rfl ?_
  refine g_iconst C (v := 3) dL_law_897 (by decide) ?_
  refine g_iadd C (v := nI (i + 3)) dL_law_898 (nI_a i 3) ?_
  refine g_sld C (v := xs (i + 3)) hX hbl hbA (xs_in hi (by decide) hN) (xs_at_ hi (by decide) hN) dL_law_899 ?_
  refine s_callVI C K hms hmn (c_X12_share Wm hm km (xs (i + 1)) (xs (i + 2)) (xs (i + 3)) w1.2.1) hm km (by decide) rfl v_L_121 rfl ⟨rfl, rfl⟩ ⟨Nat.le_of_ble_eq_true rfl, Nat.le_of_ble_eq_true rfl⟩ (Nat.le_of_ble_eq_true rfl) hcs dL_law_900 (st := []) rfl (fun r2 Ia2 Ja2 h2 Ib2 Jb2 ea2 eb2 fa2 fb2 => ?_)
  have hf2 := lf_m hL0 hf1 h2.2.1 (by decide) ea2 eb2
  have ht2 := lt_mf hL0 hO ht1 h2.2.1 (by decide) ea2 eb2
  have hn2 := ln_m hL0 hO hP hn1 h2.2.1 (by decide) h2.2.2.1 (by decide) ea2 eb2 fa2 fb2
  have hb2 := lb_m hL0 hb1 h2.2.1 (by decide) ea2 eb2 fb2
  have w2 := lm_keep hL0 w1 h2.1 h2.2.1 (by decide) ea2 eb2
  refine g_pop C dL_law_903 rfl ?_
  refine g_goto C (tgt := 1344) dL_law_904 (by decide) ?_
  exact a_wide (Nat.le_succ _) (Nat.le_add_right _ 6) (hend _ _ _ w2 hb2 ht2 hn2 hf2)
set_option maxRecDepth 100000 in
set_option maxHeartbeats 4000000 in
theorem k_last {p : Program} {l : Launch} {e : Env} {s : State} {m : MethodId} {below : List Frame} {meth : Method} {c : Code} {D : va_G} {cy : Nat → ClassId} {L LX LM : List Nat} {κ ln : Nat → Nat} {R : Nat → Nat → Option Nat} {I : Nat → Nat → Int32} {J : Nat → Nat → Int64} {ow : Nat → Nat × Nat} {x mm oo tp b N : Nat} {th trd tA tb0 tb1 tt0 tt1 rnw rkp rkt rnm rkn : Nat} {xs : Nat → Int32} (H : Lc_ p s m c D cy L b N xs) (hL : Lv_ L LX LM κ ln R ow x mm oo tp) (hO : Lo_ LX LM κ R ow x mm th trd tA tb0 tb1 tt0 tt1 rnw rkp rkt) (hP : Lpn_ LM κ R ow mm rnm rkn) {c0 : Int32} (hw : Lw_ LX LM κ R ow mm tp I (c0) (c0)) (hb0 : Lb_ R mm tp I J c0) (ht0 : Lt_ R th tb0 tb1 tt0 tt1 rnw rkp rkt I) (hn0 : Ln_ R th tt0 tt1 rkp rnm rkn I J) (hf0 : Lf_ mm tp I) {i : Nat} (hi : i + 6 ≤ N) (hN : N ≤ 3072) {cells slots : Nat} (hc1 : cells + 1 ≤ 601024) (hc2 : slots + 6 ≤ 7293034) (hend : ∀ (I2 : Nat → Nat → Int32) (J2 : Nat → Nat → Int64) (c2 : Int32), Lw_ LX LM κ R ow mm tp I2 (c2) (c2) → Lb_ R mm tp I2 J2 c2 → Lt_ R th tb0 tb1 tt0 tt1 rnw rkp rkt I2 → Ln_ R th tt0 tt1 rkp rnm rkn I2 J2 → Lf_ mm tp I2 → WG p l e room_1 s m #[Value.ref b] below meth c 7 (cells + 1) (slots + 6) (lw_Z below #[Value.ref b] s) D cy (AN_ [] s.heap.size) s.heap L κ ln R I2 J2 1344 [(4, .int (nI i)), (3, .ref oo), (2, .ref mm), (1, .ref x), (0, .ref b)] []) : WG p l e room_1 s m #[Value.ref b] below meth c 7 cells slots (lw_Z below #[Value.ref b] s) D cy (AN_ [] s.heap.size) s.heap L κ ln R I J 907 [(4, .int (nI i)), (3, .ref oo), (2, .ref mm), (1, .ref x), (0, .ref b)] [] := by
  obtain ⟨C, K, hX, hbl, hbA⟩ := H
  have hL0 := hL
  obtain ⟨hxs, hxn, hms, hmn, hdj, Wx, Wm, ⟨hx, kx⟩, ⟨hm, km⟩, ⟨hoo, koo, noo⟩, ⟨hR, htp, ktp⟩⟩ := hL
  have hcs : cells + 0 ≤ room_1.cells ∧ slots + 0 ≤ room_1.slots := ⟨show cells + 0 ≤ 601024 by omega, show slots + 0 ≤ 7293034 by omega⟩
  refine g_aload_n C 3 dL_law_907 rfl rfl ?_
  refine g_aload_n C 4 dL_law_908 rfl rfl ?_
  refine g_iload C 0 dL_law_909 rfl ?_
  refine g_iconst C (v := 1) dL_law_911 (by decide) ?_
  refine g_iadd C (v := nI (i + 1)) dL_law_912 (nI_a i 1) ?_
  refine g_sld C (v := xs (i + 1)) hX hbl hbA (xs_in hi (by decide) hN) (xs_at_ hi (by decide) hN) dL_law_913 ?_
  refine s_callVI C K hxs hxn (c_X11_last Wx hx kx (xs (i + 1)) hw.1) hx kx (by decide) rfl v_L_122 rfl ⟨rfl, rfl⟩ ⟨Nat.le_of_ble_eq_true rfl, Nat.le_of_ble_eq_true rfl⟩ (Nat.le_of_ble_eq_true rfl) hcs dL_law_914 (st := []) rfl (fun r1 Ia1 Ja1 h1 Ib1 Jb1 ea1 eb1 fa1 fb1 => ?_)
  have hf1 := lf_xp hL0 hf0 h1.1 ea1 eb1
  have ht1 := lt_xp hL0 hO ht0 h1.1 ea1 eb1
  have hn1 := ln_xp hL0 hO hP hn0 h1.1 h1.2.1 ea1 eb1 fa1 fb1
  have hb1 := lb_xp hL0 hb0 h1.1 h1.2.1 ea1 eb1 fa1
  have w1 := lx_pure hL0 hw h1.1 ea1 eb1
  refine g_pop C dL_law_917 rfl ?_
  refine g_aload_n C 2 dL_law_918 rfl rfl ?_
  refine g_aload_n C 4 dL_law_919 rfl rfl ?_
  refine g_iload C 0 dL_law_920 rfl ?_
  refine g_iconst C (v := 1) dL_law_922 (by decide) ?_
  refine g_iadd C (v := nI (i + 1)) dL_law_923 (nI_a i 1) ?_
  refine g_sld C (v := xs (i + 1)) hX hbl hbA (xs_in hi (by decide) hN) (xs_at_ hi (by decide) hN) dL_law_924 ?_
  refine s_callVI C K hms hmn (c_X12_last Wm hm km (xs (i + 1)) w1.2.1) hm km (by decide) rfl v_L_125 rfl ⟨rfl, rfl⟩ ⟨Nat.le_of_ble_eq_true rfl, Nat.le_of_ble_eq_true rfl⟩ (Nat.le_of_ble_eq_true rfl) hcs dL_law_925 (st := []) rfl (fun r2 Ia2 Ja2 h2 Ib2 Jb2 ea2 eb2 fa2 fb2 => ?_)
  have hf2 := lf_m hL0 hf1 h2.2.1 (by decide) ea2 eb2
  have ht2 := lt_mf hL0 hO ht1 h2.2.1 (by decide) ea2 eb2
  have hn2 := ln_m hL0 hO hP hn1 h2.2.1 (by decide) h2.2.2.1 (by decide) ea2 eb2 fa2 fb2
  have hb2 := lb_m hL0 hb1 h2.2.1 (by decide) ea2 eb2 fb2
  have w2 := lm_keep hL0 w1 h2.1 h2.2.1 (by decide) ea2 eb2
  refine g_pop C dL_law_928 rfl ?_
  refine g_goto C (tgt := 1344) dL_law_929 (by decide) ?_
  exact a_wide (Nat.le_succ _) (Nat.le_add_right _ 6) (hend _ _ _ w2 hb2 ht2 hn2 hf2)
set_option maxRecDepth 100000 in
set_option maxHeartbeats 4000000 in
theorem k_seats {p : Program} {l : Launch} {e : Env} {s : State} {m : MethodId} {below : List Frame} {meth : Method} {c : Code} {D : va_G} {cy : Nat → ClassId} {L LX LM : List Nat} {κ ln : Nat → Nat} {R : Nat → Nat → Option Nat} {I : Nat → Nat → Int32} {J : Nat → Nat → Int64} {ow : Nat → Nat × Nat} {x mm oo tp b N : Nat} {th trd tA tb0 tb1 tt0 tt1 rnw rkp rkt rnm rkn : Nat} {xs : Nat → Int32} (H : Lc_ p s m c D cy L b N xs) (hL : Lv_ L LX LM κ ln R ow x mm oo tp) (hO : Lo_ LX LM κ R ow x mm th trd tA tb0 tb1 tt0 tt1 rnw rkp rkt) (hP : Lpn_ LM κ R ow mm rnm rkn) {c0 : Int32} (hw : Lw_ LX LM κ R ow mm tp I (c0) (c0)) (hb0 : Lb_ R mm tp I J c0) (ht0 : Lt_ R th tb0 tb1 tt0 tt1 rnw rkp rkt I) (hn0 : Ln_ R th tt0 tt1 rkp rnm rkn I J) (hf0 : Lf_ mm tp I) {i : Nat} (hi : i + 6 ≤ N) (hN : N ≤ 3072) {cells slots : Nat} (hc1 : cells + 1 ≤ 601024) (hc2 : slots + 6 ≤ 7293034) (hend : ∀ (I2 : Nat → Nat → Int32) (J2 : Nat → Nat → Int64) (c2 : Int32), Lw_ LX LM κ R ow mm tp I2 (c2) (c2) → Lb_ R mm tp I2 J2 c2 → Lt_ R th tb0 tb1 tt0 tt1 rnw rkp rkt I2 → Ln_ R th tt0 tt1 rkp rnm rkn I2 J2 → Lf_ mm tp I2 → WG p l e room_1 s m #[Value.ref b] below meth c 7 (cells + 1) (slots + 6) (lw_Z below #[Value.ref b] s) D cy (AN_ [] s.heap.size) s.heap L κ ln R I2 J2 1344 [(4, .int (nI i)), (3, .ref oo), (2, .ref mm), (1, .ref x), (0, .ref b)] []) : WG p l e room_1 s m #[Value.ref b] below meth c 7 cells slots (lw_Z below #[Value.ref b] s) D cy (AN_ [] s.heap.size) s.heap L κ ln R I J 932 [(4, .int (nI i)), (3, .ref oo), (2, .ref mm), (1, .ref x), (0, .ref b)] [] := by
  obtain ⟨C, K, hX, hbl, hbA⟩ := H
  have hL0 := hL
  obtain ⟨hxs, hxn, hms, hmn, hdj, Wx, Wm, ⟨hx, kx⟩, ⟨hm, km⟩, ⟨hoo, koo, noo⟩, ⟨hR, htp, ktp⟩⟩ := hL
  have hcs : cells + 0 ≤ room_1.cells ∧ slots + 0 ≤ room_1.slots := ⟨show cells + 0 ≤ 601024 by omega, show slots + 0 ≤ 7293034 by omega⟩
  refine g_aload_n C 3 dL_law_932 rfl rfl ?_
  refine s_callVI C K hxs hxn (c_X11_seats Wx hx kx hw.1) hx kx (by decide) rfl v_L_126 rfl ⟨rfl, rfl⟩ ⟨Nat.le_of_ble_eq_true rfl, Nat.le_of_ble_eq_true rfl⟩ (Nat.le_of_ble_eq_true rfl) hcs dL_law_933 (st := []) rfl (fun r1 Ia1 Ja1 h1 Ib1 Jb1 ea1 eb1 fa1 fb1 => ?_)
  have hf1 := lf_x hL0 hf0 h1.2.1 (by decide) ea1 eb1
  have ht1 := lt_xf hL0 hO ht0 h1.2.1 (by decide) ea1 eb1
  have hn1 := ln_xf hL0 hO hP hn0 h1.2.1 (by decide) h1.2.2.1 (by decide) ea1 eb1 fa1 fb1
  have hb1 := lb_x hL0 hb0 h1.2.1 h1.2.2.1 (by decide) (by decide) ea1 eb1 fa1
  have w1 := lx_keep hL0 hw h1.1 h1.2.1 (by decide) ea1 eb1
  refine g_pop C dL_law_936 rfl ?_
  refine g_aload_n C 2 dL_law_937 rfl rfl ?_
  refine s_callVI C K hms hmn (c_X12_seats Wm hm km w1.2.1) hm km (by decide) rfl v_L_129 rfl ⟨rfl, rfl⟩ ⟨Nat.le_of_ble_eq_true rfl, Nat.le_of_ble_eq_true rfl⟩ (Nat.le_of_ble_eq_true rfl) hcs dL_law_938 (st := []) rfl (fun r2 Ia2 Ja2 h2 Ib2 Jb2 ea2 eb2 fa2 fb2 => ?_)
  have hf2 := lf_m hL0 hf1 h2.2.1 (by decide) ea2 eb2
  have ht2 := lt_mf hL0 hO ht1 h2.2.1 (by decide) ea2 eb2
  have hn2 := ln_m hL0 hO hP hn1 h2.2.1 (by decide) h2.2.2.1 (by decide) ea2 eb2 fa2 fb2
  have hb2 := lb_m hL0 hb1 h2.2.1 (by decide) ea2 eb2 fb2
  have w2 := lm_keep hL0 w1 h2.1 h2.2.1 (by decide) ea2 eb2
  refine g_pop C dL_law_941 rfl ?_
  refine g_goto C (tgt := 1344) dL_law_942 (by decide) ?_
  exact a_wide (Nat.le_succ _) (Nat.le_add_right _ 6) (hend _ _ _ w2 hb2 ht2 hn2 hf2)
set_option maxRecDepth 100000 in
set_option maxHeartbeats 4000000 in
theorem k_seatAt {p : Program} {l : Launch} {e : Env} {s : State} {m : MethodId} {below : List Frame} {meth : Method} {c : Code} {D : va_G} {cy : Nat → ClassId} {L LX LM : List Nat} {κ ln : Nat → Nat} {R : Nat → Nat → Option Nat} {I : Nat → Nat → Int32} {J : Nat → Nat → Int64} {ow : Nat → Nat × Nat} {x mm oo tp b N : Nat} {th trd tA tb0 tb1 tt0 tt1 rnw rkp rkt rnm rkn : Nat} {xs : Nat → Int32} (H : Lc_ p s m c D cy L b N xs) (hL : Lv_ L LX LM κ ln R ow x mm oo tp) (hO : Lo_ LX LM κ R ow x mm th trd tA tb0 tb1 tt0 tt1 rnw rkp rkt) (hP : Lpn_ LM κ R ow mm rnm rkn) {c0 : Int32} (hw : Lw_ LX LM κ R ow mm tp I (c0) (c0)) (hb0 : Lb_ R mm tp I J c0) (ht0 : Lt_ R th tb0 tb1 tt0 tt1 rnw rkp rkt I) (hn0 : Ln_ R th tt0 tt1 rkp rnm rkn I J) (hf0 : Lf_ mm tp I) {i : Nat} (hi : i + 6 ≤ N) (hN : N ≤ 3072) {cells slots : Nat} (hc1 : cells + 1 ≤ 601024) (hc2 : slots + 6 ≤ 7293034) (hend : ∀ (I2 : Nat → Nat → Int32) (J2 : Nat → Nat → Int64) (c2 : Int32), Lw_ LX LM κ R ow mm tp I2 (c2) (c2) → Lb_ R mm tp I2 J2 c2 → Lt_ R th tb0 tb1 tt0 tt1 rnw rkp rkt I2 → Ln_ R th tt0 tt1 rkp rnm rkn I2 J2 → Lf_ mm tp I2 → WG p l e room_1 s m #[Value.ref b] below meth c 7 (cells + 1) (slots + 6) (lw_Z below #[Value.ref b] s) D cy (AN_ [] s.heap.size) s.heap L κ ln R I2 J2 1344 [(4, .int (nI i)), (3, .ref oo), (2, .ref mm), (1, .ref x), (0, .ref b)] []) : WG p l e room_1 s m #[Value.ref b] below meth c 7 cells slots (lw_Z below #[Value.ref b] s) D cy (AN_ [] s.heap.size) s.heap L κ ln R I J 945 [(4, .int (nI i)), (3, .ref oo), (2, .ref mm), (1, .ref x), (0, .ref b)] [] := by
  obtain ⟨C, K, hX, hbl, hbA⟩ := H
  have hL0 := hL
  obtain ⟨hxs, hxn, hms, hmn, hdj, Wx, Wm, ⟨hx, kx⟩, ⟨hm, km⟩, ⟨hoo, koo, noo⟩, ⟨hR, htp, ktp⟩⟩ := hL
  have hcs : cells + 0 ≤ room_1.cells ∧ slots + 0 ≤ room_1.slots := ⟨show cells + 0 ≤ 601024 by omega, show slots + 0 ≤ 7293034 by omega⟩
  refine g_aload_n C 3 dL_law_945 rfl rfl ?_
  refine g_aload_n C 4 dL_law_946 rfl rfl ?_
  refine g_iload C 0 dL_law_947 rfl ?_
  refine g_iconst C (v := 1) dL_law_949 (by decide) ?_
  refine g_iadd C (v := nI (i + 1)) dL_law_950 (nI_a i 1) ?_
  refine g_sld C (v := xs (i + 1)) hX hbl hbA (xs_in hi (by decide) hN) (xs_at_ hi (by decide) hN) dL_law_951 ?_
  refine s_callVI C K hxs hxn (c_X11_seatAt Wx hx kx (xs (i + 1)) hw.1) hx kx (by decide) rfl v_L_130 rfl ⟨rfl, rfl⟩ ⟨Nat.le_of_ble_eq_true rfl, Nat.le_of_ble_eq_true rfl⟩ (Nat.le_of_ble_eq_true rfl) hcs dL_law_952 (st := []) rfl (fun r1 Ia1 Ja1 h1 Ib1 Jb1 ea1 eb1 fa1 fb1 => ?_)
  have hf1 := lf_xp hL0 hf0 h1.1 ea1 eb1
  have ht1 := lt_xp hL0 hO ht0 h1.1 ea1 eb1
  have hn1 := ln_xp hL0 hO hP hn0 h1.1 h1.2.1 ea1 eb1 fa1 fb1
  have hb1 := lb_xp hL0 hb0 h1.1 h1.2.1 ea1 eb1 fa1
  have w1 := lx_pure hL0 hw h1.1 ea1 eb1
  refine g_pop C dL_law_955 rfl ?_
  refine g_aload_n C 2 dL_law_956 rfl rfl ?_
  refine g_aload_n C 4 dL_law_957 rfl rfl ?_
  refine g_iload C 0 dL_law_958 rfl ?_
  refine g_iconst C (v := 1) dL_law_960 (by decide) ?_
  refine g_iadd C (v := nI (i + 1)) dL_law_961 (nI_a i 1) ?_
  refine g_sld C (v := xs (i + 1)) hX hbl hbA (xs_in hi (by decide) hN) (xs_at_ hi (by decide) hN) dL_law_962 ?_
  refine s_callVI C K hms hmn (c_X12_seatAt Wm hm km (xs (i + 1)) w1.2.1) hm km (by decide) rfl v_L_133 rfl ⟨rfl, rfl⟩ ⟨Nat.le_of_ble_eq_true rfl, Nat.le_of_ble_eq_true rfl⟩ (Nat.le_of_ble_eq_true rfl) hcs dL_law_963 (st := []) rfl (fun r2 Ia2 Ja2 h2 Ib2 Jb2 ea2 eb2 fa2 fb2 => ?_)
  have hf2 := lf_m hL0 hf1 h2.2.1 (by decide) ea2 eb2
  have ht2 := lt_mf hL0 hO ht1 h2.2.1 (by decide) ea2 eb2
  have hn2 := ln_m hL0 hO hP hn1 h2.2.1 (by decide) h2.2.2.1 (by decide) ea2 eb2 fa2 fb2
  have hb2 := lb_m hL0 hb1 h2.2.1 (by decide) ea2 eb2 fb2
  have w2 := lm_keep hL0 w1 h2.1 h2.2.1 (by decide) ea2 eb2
  refine g_pop C dL_law_966 rfl ?_
  refine g_goto C (tgt := 1344) dL_law_967 (by decide) ?_
  exact a_wide (Nat.le_succ _) (Nat.le_add_right _ 6) (hend _ _ _ w2 hb2 ht2 hn2 hf2)
set_option maxRecDepth 100000 in
set_option maxHeartbeats 4000000 in
theorem k_left {p : Program} {l : Launch} {e : Env} {s : State} {m : MethodId} {below : List Frame} {meth : Method} {c : Code} {D : va_G} {cy : Nat → ClassId} {L LX LM : List Nat} {κ ln : Nat → Nat} {R : Nat → Nat → Option Nat} {I : Nat → Nat → Int32} {J : Nat → Nat → Int64} {ow : Nat → Nat × Nat} {x mm oo tp b N : Nat} {th trd tA tb0 tb1 tt0 tt1 rnw rkp rkt rnm rkn : Nat} {xs : Nat → Int32} (H : Lc_ p s m c D cy L b N xs) (hL : Lv_ L LX LM κ ln R ow x mm oo tp) (hO : Lo_ LX LM κ R ow x mm th trd tA tb0 tb1 tt0 tt1 rnw rkp rkt) (hP : Lpn_ LM κ R ow mm rnm rkn) {c0 : Int32} (hw : Lw_ LX LM κ R ow mm tp I (c0) (c0)) (hb0 : Lb_ R mm tp I J c0) (ht0 : Lt_ R th tb0 tb1 tt0 tt1 rnw rkp rkt I) (hn0 : Ln_ R th tt0 tt1 rkp rnm rkn I J) (hf0 : Lf_ mm tp I) {i : Nat} (hi : i + 6 ≤ N) (hN : N ≤ 3072) {cells slots : Nat} (hc1 : cells + 1 ≤ 601024) (hc2 : slots + 6 ≤ 7293034) (hend : ∀ (I2 : Nat → Nat → Int32) (J2 : Nat → Nat → Int64) (c2 : Int32), Lw_ LX LM κ R ow mm tp I2 (c2) (c2) → Lb_ R mm tp I2 J2 c2 → Lt_ R th tb0 tb1 tt0 tt1 rnw rkp rkt I2 → Ln_ R th tt0 tt1 rkp rnm rkn I2 J2 → Lf_ mm tp I2 → WG p l e room_1 s m #[Value.ref b] below meth c 7 (cells + 1) (slots + 6) (lw_Z below #[Value.ref b] s) D cy (AN_ [] s.heap.size) s.heap L κ ln R I2 J2 1344 [(4, .int (nI i)), (3, .ref oo), (2, .ref mm), (1, .ref x), (0, .ref b)] []) : WG p l e room_1 s m #[Value.ref b] below meth c 7 cells slots (lw_Z below #[Value.ref b] s) D cy (AN_ [] s.heap.size) s.heap L κ ln R I J 970 [(4, .int (nI i)), (3, .ref oo), (2, .ref mm), (1, .ref x), (0, .ref b)] [] := by
  obtain ⟨C, K, hX, hbl, hbA⟩ := H
  have hL0 := hL
  obtain ⟨hxs, hxn, hms, hmn, hdj, Wx, Wm, ⟨hx, kx⟩, ⟨hm, km⟩, ⟨hoo, koo, noo⟩, ⟨hR, htp, ktp⟩⟩ := hL
  have hcs : cells + 0 ≤ room_1.cells ∧ slots + 0 ≤ room_1.slots := ⟨show cells + 0 ≤ 601024 by omega, show slots + 0 ≤ 7293034 by omega⟩
  refine g_aload_n C 3 dL_law_970 rfl rfl ?_
  refine g_aload_n C 4 dL_law_971 rfl rfl ?_
  refine g_iload C 0 dL_law_972 rfl ?_
  refine g_iconst C (v := 1) dL_law_974 (by decide) ?_
  refine g_iadd C (v := nI (i + 1)) dL_law_975 (nI_a i 1) ?_
  refine g_sld C (v := xs (i + 1)) hX hbl hbA (xs_in hi (by decide) hN) (xs_at_ hi (by decide) hN) dL_law_976 ?_
  refine s_callVI C K hxs hxn (c_X11_left_e Wx hx kx (xs (i + 1)) hw.1) hx kx (by decide) rfl v_L_134 rfl ⟨rfl, rfl⟩ ⟨Nat.le_of_ble_eq_true rfl, Nat.le_of_ble_eq_true rfl⟩ (Nat.le_of_ble_eq_true rfl) hcs dL_law_977 (st := []) rfl (fun r1 Ia1 Ja1 h1 Ib1 Jb1 ea1 eb1 fa1 fb1 => ?_)
  have hf1 := lf_x hL0 hf0 h1.2.1 (by decide) ea1 eb1
  have ht1 := lt_xf hL0 hO ht0 h1.2.1 (by decide) ea1 eb1
  have hn1 := ln_xf hL0 hO hP hn0 h1.2.1 (by decide) h1.2.2.1 (by decide) ea1 eb1 fa1 fb1
  have hb1 := lb_x hL0 hb0 h1.2.1 h1.2.2.1 (by decide) (by decide) ea1 eb1 fa1
  have q1 : Ia1 tp 5 = 0 := h1.2.2.2.2 tp hR
  have w1 := lx_set hL0 hw h1.1 q1 ea1 eb1
  refine g_pop C dL_law_980 rfl ?_
  refine g_aload_n C 2 dL_law_981 rfl rfl ?_
  refine g_aload_n C 4 dL_law_982 rfl rfl ?_
  refine g_iload C 0 dL_law_983 rfl ?_
  refine g_iconst C (v := 1) dL_law_985 (by decide) ?_
  refine g_iadd C (v := nI (i + 1)) dL_law_986 (nI_a i 1) ?_
  refine g_sld C (v := xs (i + 1)) hX hbl hbA (xs_in hi (by decide) hN) (xs_at_ hi (by decide) hN) dL_law_987 ?_
  refine s_callVI C K hms hmn (c_X12_left_e Wm hm km (xs (i + 1)) w1.2.1) hm km (by decide) rfl v_L_137 rfl ⟨rfl, rfl⟩ ⟨Nat.le_of_ble_eq_true rfl, Nat.le_of_ble_eq_true rfl⟩ (Nat.le_of_ble_eq_true rfl) hcs dL_law_988 (st := []) rfl (fun r2 Ia2 Ja2 h2 Ib2 Jb2 ea2 eb2 fa2 fb2 => ?_)
  have hf2 := lf_m hL0 hf1 h2.2.1 (by decide) ea2 eb2
  have ht2 := lt_m hL0 hO ht1 h2.2.2.2.2.1 h2.2.1 (by decide) ea2 eb2
  have hn2 := ln_m hL0 hO hP hn1 h2.2.1 (by decide) h2.2.2.1 (by decide) ea2 eb2 fa2 fb2
  have hb2 := lb_m hL0 hb1 h2.2.1 (by decide) ea2 eb2 fb2
  have q2 : Ia2 mm 2 = 0 := h2.2.2.2.2.2
  have w2 := lm_set hL0 w1 h2.1 q2 ea2 eb2
  refine g_pop C dL_law_991 rfl ?_
  refine g_goto C (tgt := 1344) dL_law_992 (by decide) ?_
  have hb9 := lb_le hb2 (tz_le rfl (lw_0 hL0 hw).1)
  exact a_wide (Nat.le_succ _) (Nat.le_add_right _ 6) (hend _ _ _ w2 hb9 ht2 hn2 hf2)
set_option maxRecDepth 100000 in
set_option maxHeartbeats 4000000 in
theorem k_kin {p : Program} {l : Launch} {e : Env} {s : State} {m : MethodId} {below : List Frame} {meth : Method} {c : Code} {D : va_G} {cy : Nat → ClassId} {L LX LM : List Nat} {κ ln : Nat → Nat} {R : Nat → Nat → Option Nat} {I : Nat → Nat → Int32} {J : Nat → Nat → Int64} {ow : Nat → Nat × Nat} {x mm oo tp b N : Nat} {th trd tA tb0 tb1 tt0 tt1 rnw rkp rkt rnm rkn : Nat} {xs : Nat → Int32} (H : Lc_ p s m c D cy L b N xs) (hL : Lv_ L LX LM κ ln R ow x mm oo tp) (hO : Lo_ LX LM κ R ow x mm th trd tA tb0 tb1 tt0 tt1 rnw rkp rkt) (hP : Lpn_ LM κ R ow mm rnm rkn) {c0 : Int32} (hw : Lw_ LX LM κ R ow mm tp I (c0) (c0)) (hb0 : Lb_ R mm tp I J c0) (ht0 : Lt_ R th tb0 tb1 tt0 tt1 rnw rkp rkt I) (hn0 : Ln_ R th tt0 tt1 rkp rnm rkn I J) (hf0 : Lf_ mm tp I) {i : Nat} (hi : i + 6 ≤ N) (hN : N ≤ 3072) {cells slots : Nat} (hc1 : cells + 1 ≤ 601024) (hc2 : slots + 6 ≤ 7293034) (hend : ∀ (I2 : Nat → Nat → Int32) (J2 : Nat → Nat → Int64) (c2 : Int32), Lw_ LX LM κ R ow mm tp I2 (c2) (c2) → Lb_ R mm tp I2 J2 c2 → Lt_ R th tb0 tb1 tt0 tt1 rnw rkp rkt I2 → Ln_ R th tt0 tt1 rkp rnm rkn I2 J2 → Lf_ mm tp I2 → WG p l e room_1 s m #[Value.ref b] below meth c 7 (cells + 1) (slots + 6) (lw_Z below #[Value.ref b] s) D cy (AN_ [] s.heap.size) s.heap L κ ln R I2 J2 1344 [(4, .int (nI i)), (3, .ref oo), (2, .ref mm), (1, .ref x), (0, .ref b)] []) : WG p l e room_1 s m #[Value.ref b] below meth c 7 cells slots (lw_Z below #[Value.ref b] s) D cy (AN_ [] s.heap.size) s.heap L κ ln R I J 995 [(4, .int (nI i)), (3, .ref oo), (2, .ref mm), (1, .ref x), (0, .ref b)] [] := by
  obtain ⟨C, K, hX, hbl, hbA⟩ := H
  have hL0 := hL
  obtain ⟨hxs, hxn, hms, hmn, hdj, Wx, Wm, ⟨hx, kx⟩, ⟨hm, km⟩, ⟨hoo, koo, noo⟩, ⟨hR, htp, ktp⟩⟩ := hL
  have hcs : cells + 0 ≤ room_1.cells ∧ slots + 0 ≤ room_1.slots := ⟨show cells + 0 ≤ 601024 by omega, show slots + 0 ≤ 7293034 by omega⟩
  refine g_aload_n C 3 dL_law_995 rfl rfl ?_
  refine g_aload_n C 4 dL_law_996 rfl rfl ?_
  refine g_iload C 0 dL_law_997 rfl ?_
  refine g_iconst C (v := 1) dL_law_999 (by decide) ?_
  refine g_iadd C (v := nI (i + 1)) dL_law_1000 (nI_a i 1) ?_
  refine g_sld C (v := xs (i + 1)) hX hbl hbA (xs_in hi (by decide) hN) (xs_at_ hi (by decide) hN) dL_law_1001 ?_
  refine g_aload_n C 4 dL_law_1002 rfl rfl ?_
  refine g_iload C 0 dL_law_1003 rfl ?_
  refine g_iconst C (v := 2) dL_law_1005 (by decide) ?_
  refine g_iadd C (v := nI (i + 2)) dL_law_1006 (nI_a i 2) ?_
  refine g_sld C (v := xs (i + 2)) hX hbl hbA (xs_in hi (by decide) hN) (xs_at_ hi (by decide) hN) dL_law_1007 ?_
  refine s_callVI C K hxs hxn (c_X11_kin Wx hx kx (xs (i + 1)) (xs (i + 2)) hw.1) hx kx (by decide) rfl v_L_138 rfl ⟨rfl, rfl⟩ ⟨Nat.le_of_ble_eq_true rfl, Nat.le_of_ble_eq_true rfl⟩ (Nat.le_of_ble_eq_true rfl) hcs dL_law_1008 (st := []) rfl (fun r1 Ia1 Ja1 h1 Ib1 Jb1 ea1 eb1 fa1 fb1 => ?_)
  have hf1 := lf_xp hL0 hf0 h1.1 ea1 eb1
  have ht1 := lt_xp hL0 hO ht0 h1.1 ea1 eb1
  have hn1 := ln_xp hL0 hO hP hn0 h1.1 h1.2.1 ea1 eb1 fa1 fb1
  have hb1 := lb_xp hL0 hb0 h1.1 h1.2.1 ea1 eb1 fa1
  have w1 := lx_pure hL0 hw h1.1 ea1 eb1
  refine g_pop C dL_law_1011 rfl ?_
  refine g_aload_n C 2 dL_law_1012 rfl rfl ?_
  refine g_aload_n C 4 dL_law_1013 rfl rfl ?_
  refine g_iload C 0 dL_law_1014 rfl ?_
  refine g_iconst C (v := 1) dL_law_1016 (by decide) ?_
  refine g_iadd C (v := nI (i + 1)) dL_law_1017 (nI_a i 1) ?_
  refine g_sld C (v := xs (i + 1)) hX hbl hbA (xs_in hi (by decide) hN) (xs_at_ hi (by decide) hN) dL_law_1018 ?_
  refine g_aload_n C 4 dL_law_1019 rfl rfl ?_
  refine g_iload C 0 dL_law_1020 rfl ?_
  refine g_iconst C (v := 2) dL_law_1022 (by decide) ?_
  refine g_iadd C (v := nI (i + 2)) dL_law_1023 (nI_a i 2) ?_
  refine g_sld C (v := xs (i + 2)) hX hbl hbA (xs_in hi (by decide) hN) (xs_at_ hi (by decide) hN) dL_law_1024 ?_
  refine s_callVI C K hms hmn (c_X12_kin Wm hm km (xs (i + 1)) (xs (i + 2)) w1.2.1) hm km (by decide) rfl v_L_141 rfl ⟨rfl, rfl⟩ ⟨Nat.le_of_ble_eq_true rfl, Nat.le_of_ble_eq_true rfl⟩ (Nat.le_of_ble_eq_true rfl) hcs dL_law_1025 (st := []) rfl (fun r2 Ia2 Ja2 h2 Ib2 Jb2 ea2 eb2 fa2 fb2 => ?_)
  have hf2 := lf_m hL0 hf1 h2.2.1 (by decide) ea2 eb2
  have ht2 := lt_mf hL0 hO ht1 h2.2.1 (by decide) ea2 eb2
  have hn2 := ln_m hL0 hO hP hn1 h2.2.1 (by decide) h2.2.2.1 (by decide) ea2 eb2 fa2 fb2
  have hb2 := lb_m hL0 hb1 h2.2.1 (by decide) ea2 eb2 fb2
  have w2 := lm_keep hL0 w1 h2.1 h2.2.1 (by decide) ea2 eb2
  refine g_pop C dL_law_1028 rfl ?_
  refine g_goto C (tgt := 1344) dL_law_1029 (by decide) ?_
  exact a_wide (Nat.le_succ _) (Nat.le_add_right _ 6) (hend _ _ _ w2 hb2 ht2 hn2 hf2)
set_option maxRecDepth 100000 in
set_option maxHeartbeats 4000000 in
theorem k_hungriest {p : Program} {l : Launch} {e : Env} {s : State} {m : MethodId} {below : List Frame} {meth : Method} {c : Code} {D : va_G} {cy : Nat → ClassId} {L LX LM : List Nat} {κ ln : Nat → Nat} {R : Nat → Nat → Option Nat} {I : Nat → Nat → Int32} {J : Nat → Nat → Int64} {ow : Nat → Nat × Nat} {x mm oo tp b N : Nat} {th trd tA tb0 tb1 tt0 tt1 rnw rkp rkt rnm rkn : Nat} {xs : Nat → Int32} (H : Lc_ p s m c D cy L b N xs) (hL : Lv_ L LX LM κ ln R ow x mm oo tp) (hO : Lo_ LX LM κ R ow x mm th trd tA tb0 tb1 tt0 tt1 rnw rkp rkt) (hP : Lpn_ LM κ R ow mm rnm rkn) {c0 : Int32} (hw : Lw_ LX LM κ R ow mm tp I (c0) (c0)) (hb0 : Lb_ R mm tp I J c0) (ht0 : Lt_ R th tb0 tb1 tt0 tt1 rnw rkp rkt I) (hn0 : Ln_ R th tt0 tt1 rkp rnm rkn I J) (hf0 : Lf_ mm tp I) {i : Nat} (hi : i + 6 ≤ N) (hN : N ≤ 3072) {cells slots : Nat} (hc1 : cells + 1 ≤ 601024) (hc2 : slots + 6 ≤ 7293034) (hend : ∀ (I2 : Nat → Nat → Int32) (J2 : Nat → Nat → Int64) (c2 : Int32), Lw_ LX LM κ R ow mm tp I2 (c2) (c2) → Lb_ R mm tp I2 J2 c2 → Lt_ R th tb0 tb1 tt0 tt1 rnw rkp rkt I2 → Ln_ R th tt0 tt1 rkp rnm rkn I2 J2 → Lf_ mm tp I2 → WG p l e room_1 s m #[Value.ref b] below meth c 7 (cells + 1) (slots + 6) (lw_Z below #[Value.ref b] s) D cy (AN_ [] s.heap.size) s.heap L κ ln R I2 J2 1344 [(4, .int (nI i)), (3, .ref oo), (2, .ref mm), (1, .ref x), (0, .ref b)] []) : WG p l e room_1 s m #[Value.ref b] below meth c 7 cells slots (lw_Z below #[Value.ref b] s) D cy (AN_ [] s.heap.size) s.heap L κ ln R I J 1032 [(4, .int (nI i)), (3, .ref oo), (2, .ref mm), (1, .ref x), (0, .ref b)] [] := by
  obtain ⟨C, K, hX, hbl, hbA⟩ := H
  have hL0 := hL
  obtain ⟨hxs, hxn, hms, hmn, hdj, Wx, Wm, ⟨hx, kx⟩, ⟨hm, km⟩, ⟨hoo, koo, noo⟩, ⟨hR, htp, ktp⟩⟩ := hL
  have hcs : cells + 0 ≤ room_1.cells ∧ slots + 0 ≤ room_1.slots := ⟨show cells + 0 ≤ 601024 by omega, show slots + 0 ≤ 7293034 by omega⟩
  refine g_aload_n C 3 dL_law_1032 rfl rfl ?_
  refine s_callVI C K hxs hxn (c_X11_hungriest Wx hx kx hw.1) hx kx (by decide) rfl v_L_142 rfl ⟨rfl, rfl⟩ ⟨Nat.le_of_ble_eq_true rfl, Nat.le_of_ble_eq_true rfl⟩ (Nat.le_of_ble_eq_true rfl) hcs dL_law_1033 (st := []) rfl (fun r1 Ia1 Ja1 h1 Ib1 Jb1 ea1 eb1 fa1 fb1 => ?_)
  have hf1 := lf_xp hL0 hf0 h1.1 ea1 eb1
  have ht1 := lt_xp hL0 hO ht0 h1.1 ea1 eb1
  have hn1 := ln_xp hL0 hO hP hn0 h1.1 h1.2.1 ea1 eb1 fa1 fb1
  have hb1 := lb_xp hL0 hb0 h1.1 h1.2.1 ea1 eb1 fa1
  have w1 := lx_pure hL0 hw h1.1 ea1 eb1
  refine g_pop C dL_law_1036 rfl ?_
  refine g_aload_n C 2 dL_law_1037 rfl rfl ?_
  refine s_callVI C K hms hmn (c_X12_hungriest Wm hm km w1.2.1) hm km (by decide) rfl v_L_145 rfl ⟨rfl, rfl⟩ ⟨Nat.le_of_ble_eq_true rfl, Nat.le_of_ble_eq_true rfl⟩ (Nat.le_of_ble_eq_true rfl) hcs dL_law_1038 (st := []) rfl (fun r2 Ia2 Ja2 h2 Ib2 Jb2 ea2 eb2 fa2 fb2 => ?_)
  have hf2 := lf_m hL0 hf1 h2.2.1 (by decide) ea2 eb2
  have ht2 := lt_mf hL0 hO ht1 h2.2.1 (by decide) ea2 eb2
  have hn2 := ln_m hL0 hO hP hn1 h2.2.1 (by decide) h2.2.2.1 (by decide) ea2 eb2 fa2 fb2
  have hb2 := lb_m hL0 hb1 h2.2.1 (by decide) ea2 eb2 fb2
  have w2 := lm_keep hL0 w1 h2.1 h2.2.1 (by decide) ea2 eb2
  refine g_pop C dL_law_1041 rfl ?_
  refine g_goto C (tgt := 1344) dL_law_1042 (by decide) ?_
  exact a_wide (Nat.le_succ _) (Nat.le_add_right _ 6) (hend _ _ _ w2 hb2 ht2 hn2 hf2)
set_option maxRecDepth 100000 in
set_option maxHeartbeats 4000000 in
theorem k_will {p : Program} {l : Launch} {e : Env} {s : State} {m : MethodId} {below : List Frame} {meth : Method} {c : Code} {D : va_G} {cy : Nat → ClassId} {L LX LM : List Nat} {κ ln : Nat → Nat} {R : Nat → Nat → Option Nat} {I : Nat → Nat → Int32} {J : Nat → Nat → Int64} {ow : Nat → Nat × Nat} {x mm oo tp b N : Nat} {th trd tA tb0 tb1 tt0 tt1 rnw rkp rkt rnm rkn : Nat} {xs : Nat → Int32} (H : Lc_ p s m c D cy L b N xs) (hL : Lv_ L LX LM κ ln R ow x mm oo tp) (hO : Lo_ LX LM κ R ow x mm th trd tA tb0 tb1 tt0 tt1 rnw rkp rkt) (hP : Lpn_ LM κ R ow mm rnm rkn) {k0 v0 k1 v1 k2 v2 k3 v3 : Nat} {f0 f1 f2 f3 : Nat → Int32} (hE : Ew_ k0 v0 k1 v1 k2 v2 k3 v3 f0 f1 f2 f3 (AN_ [] s.heap.size) s) {c0 : Int32} (hw : Lw_ LX LM κ R ow mm tp I (c0) (c0)) (hb0 : Lb_ R mm tp I J c0) (ht0 : Lt_ R th tb0 tb1 tt0 tt1 rnw rkp rkt I) (hn0 : Ln_ R th tt0 tt1 rkp rnm rkn I J) (hf0 : Lf_ mm tp I) {i : Nat} (hi : i + 6 ≤ N) (hN : N ≤ 3072) {cells slots : Nat} (hc1 : cells + 1 ≤ 601024) (hc2 : slots + 6 ≤ 7293034) (hend : ∀ (I2 : Nat → Nat → Int32) (J2 : Nat → Nat → Int64) (c2 : Int32), Lw_ LX LM κ R ow mm tp I2 (c2) (c2) → Lb_ R mm tp I2 J2 c2 → Lt_ R th tb0 tb1 tt0 tt1 rnw rkp rkt I2 → Ln_ R th tt0 tt1 rkp rnm rkn I2 J2 → Lf_ mm tp I2 → WG p l e room_1 s m #[Value.ref b] below meth c 7 (cells + 1) (slots + 6) (lw_Z below #[Value.ref b] s) D cy (AN_ [] s.heap.size) s.heap L κ ln R I2 J2 1344 [(4, .int (nI i)), (3, .ref oo), (2, .ref mm), (1, .ref x), (0, .ref b)] []) : WG p l e room_1 s m #[Value.ref b] below meth c 7 cells slots (lw_Z below #[Value.ref b] s) D cy (AN_ [] s.heap.size) s.heap L κ ln R I J 1045 [(4, .int (nI i)), (3, .ref oo), (2, .ref mm), (1, .ref x), (0, .ref b)] [] := by
  obtain ⟨C, K, hX, hbl, hbA⟩ := H
  have hL0 := hL
  obtain ⟨hxs, hxn, hms, hmn, hdj, Wx, Wm, ⟨hx, kx⟩, ⟨hm, km⟩, ⟨hoo, koo, noo⟩, ⟨hR, htp, ktp⟩⟩ := hL
  have hcs : cells + 0 ≤ room_1.cells ∧ slots + 0 ≤ room_1.slots := ⟨show cells + 0 ≤ 601024 by omega, show slots + 0 ≤ 7293034 by omega⟩
  refine g_aload_n C 3 dL_law_1045 rfl rfl ?_
  refine g_aload_n C 4 dL_law_1046 rfl rfl ?_
  refine g_iload C 0 dL_law_1047 rfl ?_
  refine g_iconst C (v := 1) dL_law_1049 (by decide) ?_
  refine g_iadd C (v := nI (i + 1)) dL_law_1050 (nI_a i 1) ?_
  refine g_sld C (v := xs (i + 1)) hX hbl hbA (xs_in hi (by decide) hN) (xs_at_ hi (by decide) hN) dL_law_1051 ?_
  refine s_callXI C K hxs hxn (c_X11_will Wx hx kx (xs (i + 1)) hw.1) Ew_.blind (fun H locs U hS hU hW => hE.go hW (fun a h1 h2 => by rw [hU]; exact hS.2.1 a h1 h2) (fun q hq => K.2.1 q (hxs q hq))) hx kx (by decide) rfl v_L_146 rfl ⟨rfl, rfl⟩ ⟨Nat.le_of_ble_eq_true rfl, Nat.le_of_ble_eq_true rfl⟩ (Nat.le_of_ble_eq_true rfl) hcs dL_law_1052 (st := []) rfl (fun r1 Ia1 Ja1 h1 Ib1 Jb1 ea1 eb1 fa1 fb1 => ?_)
  have hf1 := lf_x hL0 hf0 h1.2.1 (by decide) ea1 eb1
  have ht1 := lt_xf hL0 hO ht0 h1.2.1 (by decide) ea1 eb1
  have hn1 := ln_xf hL0 hO hP hn0 h1.2.1 (by decide) h1.2.2.1 (by decide) ea1 eb1 fa1 fb1
  have hb1 := lb_x hL0 hb0 h1.2.1 h1.2.2.1 (by decide) (by decide) ea1 eb1 fa1
  have w1 := lx_keep hL0 hw h1.1 h1.2.1 (by decide) ea1 eb1
  refine g_pop C dL_law_1055 rfl ?_
  refine g_aload_n C 2 dL_law_1056 rfl rfl ?_
  refine g_aload_n C 4 dL_law_1057 rfl rfl ?_
  refine g_iload C 0 dL_law_1058 rfl ?_
  refine g_iconst C (v := 1) dL_law_1060 (by decide) ?_
  refine g_iadd C (v := nI (i + 1)) dL_law_1061 (nI_a i 1) ?_
  refine g_sld C (v := xs (i + 1)) hX hbl hbA (xs_in hi (by decide) hN) (xs_at_ hi (by decide) hN) dL_law_1062 ?_
  refine s_callVI C K hms hmn (c_X12_will Wm hm km (xs (i + 1)) w1.2.1) hm km (by decide) rfl v_L_149 rfl ⟨rfl, rfl⟩ ⟨Nat.le_of_ble_eq_true rfl, Nat.le_of_ble_eq_true rfl⟩ (Nat.le_of_ble_eq_true rfl) hcs dL_law_1063 (st := []) rfl (fun r2 Ia2 Ja2 h2 Ib2 Jb2 ea2 eb2 fa2 fb2 => ?_)
  have hf2 := lf_m hL0 hf1 h2.2.1 (by decide) ea2 eb2
  have ht2 := lt_mf hL0 hO ht1 h2.2.1 (by decide) ea2 eb2
  have hn2 := ln_m hL0 hO hP hn1 h2.2.1 (by decide) h2.2.2.1 (by decide) ea2 eb2 fa2 fb2
  have hb2 := lb_m hL0 hb1 h2.2.1 (by decide) ea2 eb2 fb2
  have w2 := lm_keep hL0 w1 h2.1 h2.2.1 (by decide) ea2 eb2
  refine g_pop C dL_law_1066 rfl ?_
  refine g_goto C (tgt := 1344) dL_law_1067 (by decide) ?_
  exact a_wide (Nat.le_succ _) (Nat.le_add_right _ 6) (hend _ _ _ w2 hb2 ht2 hn2 hf2)
set_option maxRecDepth 100000 in
set_option maxHeartbeats 4000000 in
theorem k_byteAt {p : Program} {l : Launch} {e : Env} {s : State} {m : MethodId} {below : List Frame} {meth : Method} {c : Code} {D : va_G} {cy : Nat → ClassId} {L LX LM : List Nat} {κ ln : Nat → Nat} {R : Nat → Nat → Option Nat} {I : Nat → Nat → Int32} {J : Nat → Nat → Int64} {ow : Nat → Nat × Nat} {x mm oo tp b N : Nat} {th trd tA tb0 tb1 tt0 tt1 rnw rkp rkt rnm rkn : Nat} {xs : Nat → Int32} (H : Lc_ p s m c D cy L b N xs) (hL : Lv_ L LX LM κ ln R ow x mm oo tp) (hO : Lo_ LX LM κ R ow x mm th trd tA tb0 tb1 tt0 tt1 rnw rkp rkt) (hP : Lpn_ LM κ R ow mm rnm rkn) {c0 : Int32} (hw : Lw_ LX LM κ R ow mm tp I (c0) (c0)) (hb0 : Lb_ R mm tp I J c0) (ht0 : Lt_ R th tb0 tb1 tt0 tt1 rnw rkp rkt I) (hn0 : Ln_ R th tt0 tt1 rkp rnm rkn I J) (hf0 : Lf_ mm tp I) {i : Nat} (hi : i + 6 ≤ N) (hN : N ≤ 3072) {cells slots : Nat} (hc1 : cells + 1 ≤ 601024) (hc2 : slots + 6 ≤ 7293034) (hend : ∀ (I2 : Nat → Nat → Int32) (J2 : Nat → Nat → Int64) (c2 : Int32), Lw_ LX LM κ R ow mm tp I2 (c2) (c2) → Lb_ R mm tp I2 J2 c2 → Lt_ R th tb0 tb1 tt0 tt1 rnw rkp rkt I2 → Ln_ R th tt0 tt1 rkp rnm rkn I2 J2 → Lf_ mm tp I2 → WG p l e room_1 s m #[Value.ref b] below meth c 7 (cells + 1) (slots + 6) (lw_Z below #[Value.ref b] s) D cy (AN_ [] s.heap.size) s.heap L κ ln R I2 J2 1344 [(4, .int (nI i)), (3, .ref oo), (2, .ref mm), (1, .ref x), (0, .ref b)] []) : WG p l e room_1 s m #[Value.ref b] below meth c 7 cells slots (lw_Z below #[Value.ref b] s) D cy (AN_ [] s.heap.size) s.heap L κ ln R I J 1070 [(4, .int (nI i)), (3, .ref oo), (2, .ref mm), (1, .ref x), (0, .ref b)] [] := by
  obtain ⟨C, K, hX, hbl, hbA⟩ := H
  have hL0 := hL
  obtain ⟨hxs, hxn, hms, hmn, hdj, Wx, Wm, ⟨hx, kx⟩, ⟨hm, km⟩, ⟨hoo, koo, noo⟩, ⟨hR, htp, ktp⟩⟩ := hL
  have hcs : cells + 0 ≤ room_1.cells ∧ slots + 0 ≤ room_1.slots := ⟨show cells + 0 ≤ 601024 by omega, show slots + 0 ≤ 7293034 by omega⟩
  refine g_aload_n C 3 dL_law_1070 rfl rfl ?_
  refine g_aload_n C 4 dL_law_1071 rfl rfl ?_
  refine g_iload C 0 dL_law_1072 rfl ?_
  refine g_iconst C (v := 1) dL_law_1074 (by decide) ?_
  refine g_iadd C (v := nI (i + 1)) dL_law_1075 (nI_a i 1) ?_
  refine g_sld C (v := xs (i + 1)) hX hbl hbA (xs_in hi (by decide) hN) (xs_at_ hi (by decide) hN) dL_law_1076 ?_
  refine s_callVI C K hxs hxn (c_X11_byteAt Wx hx kx (xs (i + 1)) hw.1) hx kx (by decide) rfl v_L_150 rfl ⟨rfl, rfl⟩ ⟨Nat.le_of_ble_eq_true rfl, Nat.le_of_ble_eq_true rfl⟩ (Nat.le_of_ble_eq_true rfl) hcs dL_law_1077 (st := []) rfl (fun r1 Ia1 Ja1 h1 Ib1 Jb1 ea1 eb1 fa1 fb1 => ?_)
  have hf1 := lf_xp hL0 hf0 h1.1 ea1 eb1
  have ht1 := lt_xp hL0 hO ht0 h1.1 ea1 eb1
  have hn1 := ln_xp hL0 hO hP hn0 h1.1 h1.2.1 ea1 eb1 fa1 fb1
  have hb1 := lb_xp hL0 hb0 h1.1 h1.2.1 ea1 eb1 fa1
  have w1 := lx_pure hL0 hw h1.1 ea1 eb1
  refine g_pop C dL_law_1080 rfl ?_
  refine g_aload_n C 2 dL_law_1081 rfl rfl ?_
  refine g_aload_n C 4 dL_law_1082 rfl rfl ?_
  refine g_iload C 0 dL_law_1083 rfl ?_
  refine g_iconst C (v := 1) dL_law_1085 (by decide) ?_
  refine g_iadd C (v := nI (i + 1)) dL_law_1086 (nI_a i 1) ?_
  refine g_sld C (v := xs (i + 1)) hX hbl hbA (xs_in hi (by decide) hN) (xs_at_ hi (by decide) hN) dL_law_1087 ?_
  refine s_callVI C K hms hmn (c_X12_byteAt Wm hm km (xs (i + 1)) w1.2.1) hm km (by decide) rfl v_L_153 rfl ⟨rfl, rfl⟩ ⟨Nat.le_of_ble_eq_true rfl, Nat.le_of_ble_eq_true rfl⟩ (Nat.le_of_ble_eq_true rfl) hcs dL_law_1088 (st := []) rfl (fun r2 Ia2 Ja2 h2 Ib2 Jb2 ea2 eb2 fa2 fb2 => ?_)
  have hf2 := lf_m hL0 hf1 h2.2.1 (by decide) ea2 eb2
  have ht2 := lt_mf hL0 hO ht1 h2.2.1 (by decide) ea2 eb2
  have hn2 := ln_m hL0 hO hP hn1 h2.2.1 (by decide) h2.2.2.1 (by decide) ea2 eb2 fa2 fb2
  have hb2 := lb_m hL0 hb1 h2.2.1 (by decide) ea2 eb2 fb2
  have w2 := lm_keep hL0 w1 h2.1 h2.2.1 (by decide) ea2 eb2
  refine g_pop C dL_law_1091 rfl ?_
  refine g_goto C (tgt := 1344) dL_law_1092 (by decide) ?_
  exact a_wide (Nat.le_succ _) (Nat.le_add_right _ 6) (hend _ _ _ w2 hb2 ht2 hn2 hf2)
set_option maxRecDepth 100000 in
set_option maxHeartbeats 4000000 in
theorem k_drawn {p : Program} {l : Launch} {e : Env} {s : State} {m : MethodId} {below : List Frame} {meth : Method} {c : Code} {D : va_G} {cy : Nat → ClassId} {L LX LM : List Nat} {κ ln : Nat → Nat} {R : Nat → Nat → Option Nat} {I : Nat → Nat → Int32} {J : Nat → Nat → Int64} {ow : Nat → Nat × Nat} {x mm oo tp b N : Nat} {th trd tA tb0 tb1 tt0 tt1 rnw rkp rkt rnm rkn : Nat} {xs : Nat → Int32} (H : Lc_ p s m c D cy L b N xs) (hL : Lv_ L LX LM κ ln R ow x mm oo tp) (hO : Lo_ LX LM κ R ow x mm th trd tA tb0 tb1 tt0 tt1 rnw rkp rkt) (hP : Lpn_ LM κ R ow mm rnm rkn) {c0 : Int32} (hw : Lw_ LX LM κ R ow mm tp I (c0) (c0)) (hb0 : Lb_ R mm tp I J c0) (ht0 : Lt_ R th tb0 tb1 tt0 tt1 rnw rkp rkt I) (hn0 : Ln_ R th tt0 tt1 rkp rnm rkn I J) (hf0 : Lf_ mm tp I) {i : Nat} (hi : i + 6 ≤ N) (hN : N ≤ 3072) {cells slots : Nat} (hc1 : cells + 1 ≤ 601024) (hc2 : slots + 6 ≤ 7293034) (hend : ∀ (I2 : Nat → Nat → Int32) (J2 : Nat → Nat → Int64) (c2 : Int32), Lw_ LX LM κ R ow mm tp I2 (c2) (c2) → Lb_ R mm tp I2 J2 c2 → Lt_ R th tb0 tb1 tt0 tt1 rnw rkp rkt I2 → Ln_ R th tt0 tt1 rkp rnm rkn I2 J2 → Lf_ mm tp I2 → WG p l e room_1 s m #[Value.ref b] below meth c 7 (cells + 1) (slots + 6) (lw_Z below #[Value.ref b] s) D cy (AN_ [] s.heap.size) s.heap L κ ln R I2 J2 1344 [(4, .int (nI i)), (3, .ref oo), (2, .ref mm), (1, .ref x), (0, .ref b)] []) : WG p l e room_1 s m #[Value.ref b] below meth c 7 cells slots (lw_Z below #[Value.ref b] s) D cy (AN_ [] s.heap.size) s.heap L κ ln R I J 1095 [(4, .int (nI i)), (3, .ref oo), (2, .ref mm), (1, .ref x), (0, .ref b)] [] := by
  obtain ⟨C, K, hX, hbl, hbA⟩ := H
  have hL0 := hL
  obtain ⟨hxs, hxn, hms, hmn, hdj, Wx, Wm, ⟨hx, kx⟩, ⟨hm, km⟩, ⟨hoo, koo, noo⟩, ⟨hR, htp, ktp⟩⟩ := hL
  have hcs : cells + 0 ≤ room_1.cells ∧ slots + 0 ≤ room_1.slots := ⟨show cells + 0 ≤ 601024 by omega, show slots + 0 ≤ 7293034 by omega⟩
  refine g_aload_n C 3 dL_law_1095 rfl rfl ?_
  refine g_aload_n C 4 dL_law_1096 rfl rfl ?_
  refine g_iload C 0 dL_law_1097 rfl ?_
  refine g_iconst C (v := 1) dL_law_1099 (by decide) ?_
  refine g_iadd C (v := nI (i + 1)) dL_law_1100 (nI_a i 1) ?_
  refine g_sld C (v := xs (i + 1)) hX hbl hbA (xs_in hi (by decide) hN) (xs_at_ hi (by decide) hN) dL_law_1101 ?_
  refine g_aload_n C 4 dL_law_1102 rfl rfl ?_
  refine g_iload C 0 dL_law_1103 rfl ?_
  refine g_iconst C (v := 2) dL_law_1105 (by decide) ?_
  refine g_iadd C (v := nI (i + 2)) dL_law_1106 (nI_a i 2) ?_
  refine g_sld C (v := xs (i + 2)) hX hbl hbA (xs_in hi (by decide) hN) (xs_at_ hi (by decide) hN) dL_law_1107 ?_
  refine s_callVI C K hxs hxn (c_X11_drawn Wx hx kx (xs (i + 1)) (xs (i + 2)) hw.1) hx kx (by decide) rfl v_L_154 rfl ⟨rfl, rfl⟩ ⟨Nat.le_of_ble_eq_true rfl, Nat.le_of_ble_eq_true rfl⟩ (Nat.le_of_ble_eq_true rfl) hcs dL_law_1108 (st := []) rfl (fun r1 Ia1 Ja1 h1 Ib1 Jb1 ea1 eb1 fa1 fb1 => ?_)
  have hf1 := lf_x hL0 hf0 h1.2.1 (by decide) ea1 eb1
  have ht1 := lt_xf hL0 hO ht0 h1.2.1 (by decide) ea1 eb1
  have hn1 := ln_xf hL0 hO hP hn0 h1.2.1 (by decide) h1.2.2.1 (by decide) ea1 eb1 fa1 fb1
  have hb1 := lb_x hL0 hb0 h1.2.1 h1.2.2.1 (by decide) (by decide) ea1 eb1 fa1
  have w1 := lx_keep hL0 hw h1.1 h1.2.1 (by decide) ea1 eb1
  refine g_pop C dL_law_1111 rfl ?_
  refine g_aload_n C 2 dL_law_1112 rfl rfl ?_
  refine g_aload_n C 4 dL_law_1113 rfl rfl ?_
  refine g_iload C 0 dL_law_1114 rfl ?_
  refine g_iconst C (v := 1) dL_law_1116 (by decide) ?_
  refine g_iadd C (v := nI (i + 1)) dL_law_1117 (nI_a i 1) ?_
  refine g_sld C (v := xs (i + 1)) hX hbl hbA (xs_in hi (by decide) hN) (xs_at_ hi (by decide) hN) dL_law_1118 ?_
  refine g_aload_n C 4 dL_law_1119 rfl rfl ?_
  refine g_iload C 0 dL_law_1120 rfl ?_
  refine g_iconst C (v := 2) dL_law_1122 (by decide) ?_
  refine g_iadd C (v := nI (i + 2)) dL_law_1123 (nI_a i 2) ?_
  refine g_sld C (v := xs (i + 2)) hX hbl hbA (xs_in hi (by decide) hN) (xs_at_ hi (by decide) hN) dL_law_1124 ?_
  refine s_callVI C K hms hmn (c_X12_drawn Wm hm km (xs (i + 1)) (xs (i + 2)) w1.2.1) hm km (by decide) rfl v_L_157 rfl ⟨rfl, rfl⟩ ⟨Nat.le_of_ble_eq_true rfl, Nat.le_of_ble_eq_true rfl⟩ (Nat.le_of_ble_eq_true rfl) hcs dL_law_1125 (st := []) rfl (fun r2 Ia2 Ja2 h2 Ib2 Jb2 ea2 eb2 fa2 fb2 => ?_)
  have hf2 := lf_m hL0 hf1 h2.2.1 (by decide) ea2 eb2
  have ht2 := lt_m hL0 hO ht1 h2.2.2.2.2 h2.2.1 (by decide) ea2 eb2
  have hn2 := ln_m hL0 hO hP hn1 h2.2.1 (by decide) h2.2.2.1 (by decide) ea2 eb2 fa2 fb2
  have hb2 := lb_m hL0 hb1 h2.2.1 (by decide) ea2 eb2 fb2
  have w2 := lm_keep hL0 w1 h2.1 h2.2.1 (by decide) ea2 eb2
  refine g_pop C dL_law_1128 rfl ?_
  refine g_goto C (tgt := 1344) dL_law_1129 (by decide) ?_
  exact a_wide (Nat.le_succ _) (Nat.le_add_right _ 6) (hend _ _ _ w2 hb2 ht2 hn2 hf2)
set_option maxRecDepth 100000 in
set_option maxHeartbeats 4000000 in
theorem k_odds {p : Program} {l : Launch} {e : Env} {s : State} {m : MethodId} {below : List Frame} {meth : Method} {c : Code} {D : va_G} {cy : Nat → ClassId} {L LX LM : List Nat} {κ ln : Nat → Nat} {R : Nat → Nat → Option Nat} {I : Nat → Nat → Int32} {J : Nat → Nat → Int64} {ow : Nat → Nat × Nat} {x mm oo tp b N : Nat} {th trd tA tb0 tb1 tt0 tt1 rnw rkp rkt rnm rkn : Nat} {xs : Nat → Int32} (H : Lc_ p s m c D cy L b N xs) (hL : Lv_ L LX LM κ ln R ow x mm oo tp) (hO : Lo_ LX LM κ R ow x mm th trd tA tb0 tb1 tt0 tt1 rnw rkp rkt) (hP : Lpn_ LM κ R ow mm rnm rkn) {c0 : Int32} (hw : Lw_ LX LM κ R ow mm tp I (c0) (c0)) (hb0 : Lb_ R mm tp I J c0) (ht0 : Lt_ R th tb0 tb1 tt0 tt1 rnw rkp rkt I) (hn0 : Ln_ R th tt0 tt1 rkp rnm rkn I J) (hf0 : Lf_ mm tp I) {i : Nat} (hi : i + 6 ≤ N) (hN : N ≤ 3072) {cells slots : Nat} (hc1 : cells + 1 ≤ 601024) (hc2 : slots + 6 ≤ 7293034) (hend : ∀ (I2 : Nat → Nat → Int32) (J2 : Nat → Nat → Int64) (c2 : Int32), Lw_ LX LM κ R ow mm tp I2 (c2) (c2) → Lb_ R mm tp I2 J2 c2 → Lt_ R th tb0 tb1 tt0 tt1 rnw rkp rkt I2 → Ln_ R th tt0 tt1 rkp rnm rkn I2 J2 → Lf_ mm tp I2 → WG p l e room_1 s m #[Value.ref b] below meth c 7 (cells + 1) (slots + 6) (lw_Z below #[Value.ref b] s) D cy (AN_ [] s.heap.size) s.heap L κ ln R I2 J2 1344 [(4, .int (nI i)), (3, .ref oo), (2, .ref mm), (1, .ref x), (0, .ref b)] []) : WG p l e room_1 s m #[Value.ref b] below meth c 7 cells slots (lw_Z below #[Value.ref b] s) D cy (AN_ [] s.heap.size) s.heap L κ ln R I J 1132 [(4, .int (nI i)), (3, .ref oo), (2, .ref mm), (1, .ref x), (0, .ref b)] [] := by
  obtain ⟨C, K, hX, hbl, hbA⟩ := H
  have hL0 := hL
  obtain ⟨hxs, hxn, hms, hmn, hdj, Wx, Wm, ⟨hx, kx⟩, ⟨hm, km⟩, ⟨hoo, koo, noo⟩, ⟨hR, htp, ktp⟩⟩ := hL
  have hcs : cells + 0 ≤ room_1.cells ∧ slots + 0 ≤ room_1.slots := ⟨show cells + 0 ≤ 601024 by omega, show slots + 0 ≤ 7293034 by omega⟩
  refine g_aload_n C 3 dL_law_1132 rfl rfl ?_
  refine g_aload_n C 4 dL_law_1133 rfl rfl ?_
  refine g_iload C 0 dL_law_1134 rfl ?_
  refine g_iconst C (v := 1) dL_law_1136 (by decide) ?_
  refine g_iadd C (v := nI (i + 1)) dL_law_1137 (nI_a i 1) ?_
  refine g_sld C (v := xs (i + 1)) hX hbl hbA (xs_in hi (by decide) hN) (xs_at_ hi (by decide) hN) dL_law_1138 ?_
  refine g_aload_n C 4 dL_law_1139 rfl rfl ?_
  refine g_iload C 0 dL_law_1140 rfl ?_
  refine g_iconst C (v := 2) dL_law_1142 (by decide) ?_
  refine g_iadd C (v := nI (i + 2)) dL_law_1143 (nI_a i 2) ?_
  refine g_sld C (v := xs (i + 2)) hX hbl hbA (xs_in hi (by decide) hN) (xs_at_ hi (by decide) hN) dL_law_1144 ?_
  refine g_aload_n C 4 dL_law_1145 rfl rfl ?_
  refine g_iload C 0 dL_law_1146 rfl ?_
  refine g_iconst C (v := 3) dL_law_1148 (by decide) ?_
  refine g_iadd C (v := nI (i + 3)) dL_law_1149 (nI_a i 3) ?_
  refine g_sld C (v := xs (i + 3)) hX hbl hbA (xs_in hi (by decide) hN) (xs_at_ hi (by decide) hN) dL_law_1150 ?_
  refine s_callVI C K hxs hxn (c_X11_odds Wx hx kx (xs (i + 1)) (xs (i + 2)) (xs (i + 3)) hw.1) hx kx (by decide) rfl v_L_158 rfl ⟨rfl, rfl⟩ ⟨Nat.le_of_ble_eq_true rfl, Nat.le_of_ble_eq_true rfl⟩ (Nat.le_of_ble_eq_true rfl) hcs dL_law_1151 (st := []) rfl (fun r1 Ia1 Ja1 h1 Ib1 Jb1 ea1 eb1 fa1 fb1 => ?_)
  have hf1 := lf_x hL0 hf0 h1.2.1 (by decide) ea1 eb1
  have ht1 := lt_xf hL0 hO ht0 h1.2.1 (by decide) ea1 eb1
  have hn1 := ln_xf hL0 hO hP hn0 h1.2.1 (by decide) h1.2.2.1 (by decide) ea1 eb1 fa1 fb1
  have hb1 := lb_x hL0 hb0 h1.2.1 h1.2.2.1 (by decide) (by decide) ea1 eb1 fa1
  have w1 := lx_keep hL0 hw h1.1 h1.2.1 (by decide) ea1 eb1
  refine g_pop C dL_law_1154 rfl ?_
  refine g_aload_n C 2 dL_law_1155 rfl rfl ?_
  refine g_aload_n C 4 dL_law_1156 rfl rfl ?_
  refine g_iload C 0 dL_law_1157 rfl ?_
  refine g_iconst C (v := 1) dL_law_1159 (by decide) ?_
  refine g_iadd C (v := nI (i + 1)) dL_law_1160 (nI_a i 1) ?_
  refine g_sld C (v := xs (i + 1)) hX hbl hbA (xs_in hi (by decide) hN) (xs_at_ hi (by decide) hN) dL_law_1161 ?_
  refine g_aload_n C 4 dL_law_1162 rfl rfl ?_
  refine g_iload C 0 dL_law_1163 rfl ?_
  refine g_iconst C (v := 2) dL_law_1165 (by decide) ?_
  refine g_iadd C (v := nI (i + 2)) dL_law_1166 (nI_a i 2) ?_
  refine g_sld C (v := xs (i + 2)) hX hbl hbA (xs_in hi (by decide) hN) (xs_at_ hi (by decide) hN) dL_law_1167 ?_
  refine g_aload_n C 4 dL_law_1168 rfl rfl ?_
  refine g_iload C 0 dL_law_1169 rfl ?_
  refine g_iconst C (v := 3) dL_law_1171 (by decide) ?_
  refine g_iadd C (v := nI (i + 3)) dL_law_1172 (nI_a i 3) ?_
  refine g_sld C (v := xs (i + 3)) hX hbl hbA (xs_in hi (by decide) hN) (xs_at_ hi (by decide) hN) dL_law_1173 ?_
  refine s_callVI C K hms hmn (c_X12_odds Wm hm km (xs (i + 1)) (xs (i + 2)) (xs (i + 3)) w1.2.1) hm km (by decide) rfl v_L_161 rfl ⟨rfl, rfl⟩ ⟨Nat.le_of_ble_eq_true rfl, Nat.le_of_ble_eq_true rfl⟩ (Nat.le_of_ble_eq_true rfl) hcs dL_law_1174 (st := []) rfl (fun r2 Ia2 Ja2 h2 Ib2 Jb2 ea2 eb2 fa2 fb2 => ?_)
  have hf2 := lf_m hL0 hf1 h2.2.1 (by decide) ea2 eb2
  have ht2 := lt_m hL0 hO ht1 h2.2.2.2.2 h2.2.1 (by decide) ea2 eb2
  have hn2 := ln_m hL0 hO hP hn1 h2.2.1 (by decide) h2.2.2.1 (by decide) ea2 eb2 fa2 fb2
  have hb2 := lb_m hL0 hb1 h2.2.1 (by decide) ea2 eb2 fb2
  have w2 := lm_keep hL0 w1 h2.1 h2.2.1 (by decide) ea2 eb2
  refine g_pop C dL_law_1177 rfl ?_
  refine g_goto C (tgt := 1344) dL_law_1178 (by decide) ?_
  exact a_wide (Nat.le_succ _) (Nat.le_add_right _ 6) (hend _ _ _ w2 hb2 ht2 hn2 hf2)
set_option maxRecDepth 100000 in
set_option maxHeartbeats 4000000 in
theorem k_book {p : Program} {l : Launch} {e : Env} {s : State} {m : MethodId} {below : List Frame} {meth : Method} {c : Code} {D : va_G} {cy : Nat → ClassId} {L LX LM : List Nat} {κ ln : Nat → Nat} {R : Nat → Nat → Option Nat} {I : Nat → Nat → Int32} {J : Nat → Nat → Int64} {ow : Nat → Nat × Nat} {x mm oo tp b N : Nat} {th trd tA tb0 tb1 tt0 tt1 rnw rkp rkt rnm rkn : Nat} {xs : Nat → Int32} (H : Lc_ p s m c D cy L b N xs) (hL : Lv_ L LX LM κ ln R ow x mm oo tp) (hO : Lo_ LX LM κ R ow x mm th trd tA tb0 tb1 tt0 tt1 rnw rkp rkt) (hP : Lpn_ LM κ R ow mm rnm rkn) {c0 : Int32} (hw : Lw_ LX LM κ R ow mm tp I (c0) (c0)) (hb0 : Lb_ R mm tp I J c0) (ht0 : Lt_ R th tb0 tb1 tt0 tt1 rnw rkp rkt I) (hn0 : Ln_ R th tt0 tt1 rkp rnm rkn I J) (hf0 : Lf_ mm tp I) {i : Nat} (hi : i + 6 ≤ N) (hN : N ≤ 3072) {cells slots : Nat} (hc1 : cells + 1 ≤ 601024) (hc2 : slots + 6 ≤ 7293034) (hend : ∀ (I2 : Nat → Nat → Int32) (J2 : Nat → Nat → Int64) (c2 : Int32), Lw_ LX LM κ R ow mm tp I2 (c2) (c2) → Lb_ R mm tp I2 J2 c2 → Lt_ R th tb0 tb1 tt0 tt1 rnw rkp rkt I2 → Ln_ R th tt0 tt1 rkp rnm rkn I2 J2 → Lf_ mm tp I2 → WG p l e room_1 s m #[Value.ref b] below meth c 7 (cells + 1) (slots + 6) (lw_Z below #[Value.ref b] s) D cy (AN_ [] s.heap.size) s.heap L κ ln R I2 J2 1344 [(4, .int (nI i)), (3, .ref oo), (2, .ref mm), (1, .ref x), (0, .ref b)] []) : WG p l e room_1 s m #[Value.ref b] below meth c 7 cells slots (lw_Z below #[Value.ref b] s) D cy (AN_ [] s.heap.size) s.heap L κ ln R I J 1181 [(4, .int (nI i)), (3, .ref oo), (2, .ref mm), (1, .ref x), (0, .ref b)] [] := by
  obtain ⟨C, K, hX, hbl, hbA⟩ := H
  have hL0 := hL
  obtain ⟨hxs, hxn, hms, hmn, hdj, Wx, Wm, ⟨hx, kx⟩, ⟨hm, km⟩, ⟨hoo, koo, noo⟩, ⟨hR, htp, ktp⟩⟩ := hL
  have hcs : cells + 0 ≤ room_1.cells ∧ slots + 0 ≤ room_1.slots := ⟨show cells + 0 ≤ 601024 by omega, show slots + 0 ≤ 7293034 by omega⟩
  refine g_aload_n C 3 dL_law_1181 rfl rfl ?_
  refine g_aload_n C 4 dL_law_1182 rfl rfl ?_
  refine g_iload C 0 dL_law_1183 rfl ?_
  refine g_iconst C (v := 1) dL_law_1185 (by decide) ?_
  refine g_iadd C (v := nI (i + 1)) dL_law_1186 (nI_a i 1) ?_
  refine g_sld C (v := xs (i + 1)) hX hbl hbA (xs_in hi (by decide) hN) (xs_at_ hi (by decide) hN) dL_law_1187 ?_
  refine s_callVI C K hxs hxn (c_X11_book_e Wx hx kx (xs (i + 1)) hw.1) hx kx (by decide) rfl v_L_162 rfl ⟨rfl, rfl⟩ ⟨Nat.le_of_ble_eq_true rfl, Nat.le_of_ble_eq_true rfl⟩ (Nat.le_of_ble_eq_true rfl) hcs dL_law_1188 (st := []) rfl (fun r1 Ia1 Ja1 h1 Ib1 Jb1 ea1 eb1 fa1 fb1 => ?_)
  have ht1 := lt_xf hL0 hO ht0 h1.2.1 (by decide) ea1 eb1
  have hn1 := ln_xf hL0 hO hP hn0 h1.2.1 (by decide) h1.2.2.1 (by decide) ea1 eb1 fa1 fb1
  have hb1 := lb_x hL0 hb0 h1.2.1 h1.2.2.1 (by decide) (by decide) ea1 eb1 fa1
  have q1 : Tb_ c0 (Ia1 tp 5) (xs (i + 1)) := by have q := h1.2.2.2.2.2 tp hR; rw [hw.2.2.1] at q; exact q
  have w1 := lx_set hL0 hw h1.1 rfl ea1 eb1
  refine g_pop C dL_law_1191 rfl ?_
  refine g_aload_n C 2 dL_law_1192 rfl rfl ?_
  refine g_aload_n C 4 dL_law_1193 rfl rfl ?_
  refine g_iload C 0 dL_law_1194 rfl ?_
  refine g_iconst C (v := 1) dL_law_1196 (by decide) ?_
  refine g_iadd C (v := nI (i + 1)) dL_law_1197 (nI_a i 1) ?_
  refine g_sld C (v := xs (i + 1)) hX hbl hbA (xs_in hi (by decide) hN) (xs_at_ hi (by decide) hN) dL_law_1198 ?_
  refine s_callVI C K hms hmn (c_X12_book_e Wm hm km (xs (i + 1)) w1.2.1) hm km (by decide) rfl v_L_165 rfl ⟨rfl, rfl⟩ ⟨Nat.le_of_ble_eq_true rfl, Nat.le_of_ble_eq_true rfl⟩ (Nat.le_of_ble_eq_true rfl) hcs dL_law_1199 (st := []) rfl (fun r2 Ia2 Ja2 h2 Ib2 Jb2 ea2 eb2 fa2 fb2 => ?_)
  have hf9 := lf_book hL0 hO hP hw hb0 ht0 hn0 hf0 h1.2.2.2.2.1 ea1 eb1 fb1 h2.2.2.2.2.1 ea2 eb2
  have ht2 := lt_m hL0 hO ht1 h2.2.2.2.2.2.1 h2.2.1 (by decide) ea2 eb2
  have hn2 := ln_m hL0 hO hP hn1 h2.2.1 (by decide) h2.2.2.1 (by decide) ea2 eb2 fa2 fb2
  have hb2 := lb_m hL0 hb1 h2.2.1 (by decide) ea2 eb2 fb2
  have q2 : Tb_ c0 (Ia2 mm 2) (xs (i + 1)) := by have q := h2.2.2.2.2.2.2; rw [w1.2.2.2] at q; exact q
  have w2 := lm_set hL0 w1 h2.1 rfl ea2 eb2
  refine g_pop C dL_law_1202 rfl ?_
  refine g_goto C (tgt := 1344) dL_law_1203 (by decide) ?_
  have ec : Ia1 tp 5 = Ia2 mm 2 := tb_1 q1 q2
  rw [ec] at w2
  have hb9 := lb_le hb2 (tb_le q2 (lw_0 hL0 hw).1)
  exact a_wide (Nat.le_succ _) (Nat.le_add_right _ 6) (hend _ _ _ w2 hb9 ht2 hn2 hf9)
set_option maxRecDepth 100000 in
set_option maxHeartbeats 4000000 in
theorem k_told {p : Program} {l : Launch} {e : Env} {s : State} {m : MethodId} {below : List Frame} {meth : Method} {c : Code} {D : va_G} {cy : Nat → ClassId} {L LX LM : List Nat} {κ ln : Nat → Nat} {R : Nat → Nat → Option Nat} {I : Nat → Nat → Int32} {J : Nat → Nat → Int64} {ow : Nat → Nat × Nat} {x mm oo tp b N : Nat} {th trd tA tb0 tb1 tt0 tt1 rnw rkp rkt rnm rkn : Nat} {xs : Nat → Int32} (H : Lc_ p s m c D cy L b N xs) (hL : Lv_ L LX LM κ ln R ow x mm oo tp) (hO : Lo_ LX LM κ R ow x mm th trd tA tb0 tb1 tt0 tt1 rnw rkp rkt) (hP : Lpn_ LM κ R ow mm rnm rkn) {c0 : Int32} (hw : Lw_ LX LM κ R ow mm tp I (c0) (c0)) (hb0 : Lb_ R mm tp I J c0) (ht0 : Lt_ R th tb0 tb1 tt0 tt1 rnw rkp rkt I) (hn0 : Ln_ R th tt0 tt1 rkp rnm rkn I J) (hf0 : Lf_ mm tp I) {i : Nat} (hi : i + 6 ≤ N) (hN : N ≤ 3072) {cells slots : Nat} (hc1 : cells + 1 ≤ 601024) (hc2 : slots + 6 ≤ 7293034) (hend : ∀ (I2 : Nat → Nat → Int32) (J2 : Nat → Nat → Int64) (c2 : Int32), Lw_ LX LM κ R ow mm tp I2 (c2) (c2) → Lb_ R mm tp I2 J2 c2 → Lt_ R th tb0 tb1 tt0 tt1 rnw rkp rkt I2 → Ln_ R th tt0 tt1 rkp rnm rkn I2 J2 → Lf_ mm tp I2 → WG p l e room_1 s m #[Value.ref b] below meth c 7 (cells + 1) (slots + 6) (lw_Z below #[Value.ref b] s) D cy (AN_ [] s.heap.size) s.heap L κ ln R I2 J2 1344 [(4, .int (nI i)), (3, .ref oo), (2, .ref mm), (1, .ref x), (0, .ref b)] []) : WG p l e room_1 s m #[Value.ref b] below meth c 7 cells slots (lw_Z below #[Value.ref b] s) D cy (AN_ [] s.heap.size) s.heap L κ ln R I J 1206 [(4, .int (nI i)), (3, .ref oo), (2, .ref mm), (1, .ref x), (0, .ref b)] [] := by
  obtain ⟨C, K, hX, hbl, hbA⟩ := H
  have hL0 := hL
  obtain ⟨hxs, hxn, hms, hmn, hdj, Wx, Wm, ⟨hx, kx⟩, ⟨hm, km⟩, ⟨hoo, koo, noo⟩, ⟨hR, htp, ktp⟩⟩ := hL
  have hcs : cells + 0 ≤ room_1.cells ∧ slots + 0 ≤ room_1.slots := ⟨show cells + 0 ≤ 601024 by omega, show slots + 0 ≤ 7293034 by omega⟩
  refine g_aload_n C 3 dL_law_1206 rfl rfl ?_
  refine g_aload_n C 4 dL_law_1207 rfl rfl ?_
  refine g_iload C 0 dL_law_1208 rfl ?_
  refine g_iconst C (v := 1) dL_law_1210 (by decide) ?_
  refine g_iadd C (v := nI (i + 1)) dL_law_1211 (nI_a i 1) ?_
  refine g_sld C (v := xs (i + 1)) hX hbl hbA (xs_in hi (by decide) hN) (xs_at_ hi (by decide) hN) dL_law_1212 ?_
  refine s_callVI C K hxs hxn (c_X11_told Wx hx kx (xs (i + 1)) hw.1) hx kx (by decide) rfl v_L_166 rfl ⟨rfl, rfl⟩ ⟨Nat.le_of_ble_eq_true rfl, Nat.le_of_ble_eq_true rfl⟩ (Nat.le_of_ble_eq_true rfl) hcs dL_law_1213 (st := []) rfl (fun r1 Ia1 Ja1 h1 Ib1 Jb1 ea1 eb1 fa1 fb1 => ?_)
  have hf1 := lf_xp hL0 hf0 h1.1 ea1 eb1
  have ht1 := lt_xp hL0 hO ht0 h1.1 ea1 eb1
  have hn1 := ln_xp hL0 hO hP hn0 h1.1 h1.2.1 ea1 eb1 fa1 fb1
  have hb1 := lb_xp hL0 hb0 h1.1 h1.2.1 ea1 eb1 fa1
  have w1 := lx_pure hL0 hw h1.1 ea1 eb1
  refine g_pop C dL_law_1216 rfl ?_
  refine g_aload_n C 2 dL_law_1217 rfl rfl ?_
  refine g_aload_n C 4 dL_law_1218 rfl rfl ?_
  refine g_iload C 0 dL_law_1219 rfl ?_
  refine g_iconst C (v := 1) dL_law_1221 (by decide) ?_
  refine g_iadd C (v := nI (i + 1)) dL_law_1222 (nI_a i 1) ?_
  refine g_sld C (v := xs (i + 1)) hX hbl hbA (xs_in hi (by decide) hN) (xs_at_ hi (by decide) hN) dL_law_1223 ?_
  refine s_callVI C K hms hmn (c_X12_told Wm hm km (xs (i + 1)) w1.2.1) hm km (by decide) rfl v_L_169 rfl ⟨rfl, rfl⟩ ⟨Nat.le_of_ble_eq_true rfl, Nat.le_of_ble_eq_true rfl⟩ (Nat.le_of_ble_eq_true rfl) hcs dL_law_1224 (st := []) rfl (fun r2 Ia2 Ja2 h2 Ib2 Jb2 ea2 eb2 fa2 fb2 => ?_)
  have hf2 := lf_m hL0 hf1 h2.2.1 (by decide) ea2 eb2
  have ht2 := lt_mf hL0 hO ht1 h2.2.1 (by decide) ea2 eb2
  have hn2 := ln_m hL0 hO hP hn1 h2.2.1 (by decide) h2.2.2.1 (by decide) ea2 eb2 fa2 fb2
  have hb2 := lb_m hL0 hb1 h2.2.1 (by decide) ea2 eb2 fb2
  have w2 := lm_keep hL0 w1 h2.1 h2.2.1 (by decide) ea2 eb2
  refine g_pop C dL_law_1227 rfl ?_
  refine g_goto C (tgt := 1344) dL_law_1228 (by decide) ?_
  exact a_wide (Nat.le_succ _) (Nat.le_add_right _ 6) (hend _ _ _ w2 hb2 ht2 hn2 hf2)
set_option maxRecDepth 100000 in
set_option maxHeartbeats 4000000 in
theorem k_sentence {p : Program} {l : Launch} {e : Env} {s : State} {m : MethodId} {below : List Frame} {meth : Method} {c : Code} {D : va_G} {cy : Nat → ClassId} {L LX LM : List Nat} {κ ln : Nat → Nat} {R : Nat → Nat → Option Nat} {I : Nat → Nat → Int32} {J : Nat → Nat → Int64} {ow : Nat → Nat × Nat} {x mm oo tp b N : Nat} {th trd tA tb0 tb1 tt0 tt1 rnw rkp rkt rnm rkn : Nat} {xs : Nat → Int32} (H : Lc_ p s m c D cy L b N xs) (hL : Lv_ L LX LM κ ln R ow x mm oo tp) (hO : Lo_ LX LM κ R ow x mm th trd tA tb0 tb1 tt0 tt1 rnw rkp rkt) (hP : Lpn_ LM κ R ow mm rnm rkn) {c0 : Int32} (hw : Lw_ LX LM κ R ow mm tp I (c0) (c0)) (hb0 : Lb_ R mm tp I J c0) (ht0 : Lt_ R th tb0 tb1 tt0 tt1 rnw rkp rkt I) (hn0 : Ln_ R th tt0 tt1 rkp rnm rkn I J) (hf0 : Lf_ mm tp I) {i : Nat} (hi : i + 6 ≤ N) (hN : N ≤ 3072) {cells slots : Nat} (hc1 : cells + 1 ≤ 601024) (hc2 : slots + 6 ≤ 7293034) (hend : ∀ (I2 : Nat → Nat → Int32) (J2 : Nat → Nat → Int64) (c2 : Int32), Lw_ LX LM κ R ow mm tp I2 (c2) (c2) → Lb_ R mm tp I2 J2 c2 → Lt_ R th tb0 tb1 tt0 tt1 rnw rkp rkt I2 → Ln_ R th tt0 tt1 rkp rnm rkn I2 J2 → Lf_ mm tp I2 → WG p l e room_1 s m #[Value.ref b] below meth c 7 (cells + 1) (slots + 6) (lw_Z below #[Value.ref b] s) D cy (AN_ [] s.heap.size) s.heap L κ ln R I2 J2 1344 [(4, .int (nI i)), (3, .ref oo), (2, .ref mm), (1, .ref x), (0, .ref b)] []) : WG p l e room_1 s m #[Value.ref b] below meth c 7 cells slots (lw_Z below #[Value.ref b] s) D cy (AN_ [] s.heap.size) s.heap L κ ln R I J 1231 [(4, .int (nI i)), (3, .ref oo), (2, .ref mm), (1, .ref x), (0, .ref b)] [] := by
  obtain ⟨C, K, hX, hbl, hbA⟩ := H
  have hL0 := hL
  obtain ⟨hxs, hxn, hms, hmn, hdj, Wx, Wm, ⟨hx, kx⟩, ⟨hm, km⟩, ⟨hoo, koo, noo⟩, ⟨hR, htp, ktp⟩⟩ := hL
  have hcs : cells + 0 ≤ room_1.cells ∧ slots + 0 ≤ room_1.slots := ⟨show cells + 0 ≤ 601024 by omega, show slots + 0 ≤ 7293034 by omega⟩
  refine g_aload_n C 3 dL_law_1231 rfl rfl ?_
  refine s_callVI C K hxs hxn (c_X11_sentence_e Wx hx kx hw.1) hx kx (by decide) rfl v_L_170 rfl ⟨rfl, rfl⟩ ⟨Nat.le_of_ble_eq_true rfl, Nat.le_of_ble_eq_true rfl⟩ (Nat.le_of_ble_eq_true rfl) hcs dL_law_1232 (st := []) rfl (fun r1 Ia1 Ja1 h1 Ib1 Jb1 ea1 eb1 fa1 fb1 => ?_)
  have ht1 := lt_xf hL0 hO ht0 h1.2.1 (by decide) ea1 eb1
  have hn1 := ln_xf hL0 hO hP hn0 h1.2.1 (by decide) h1.2.2.1 (by decide) ea1 eb1 fa1 fb1
  have hb1 := lb_x hL0 hb0 h1.2.1 h1.2.2.1 (by decide) (by decide) ea1 eb1 fa1
  have q1 : Ia1 tp 5 = 0 := h1.2.2.2.2.2.2 tp hR
  have w1 := lx_set hL0 hw h1.1 q1 ea1 eb1
  refine g_pop C dL_law_1235 rfl ?_
  refine g_aload_n C 2 dL_law_1236 rfl rfl ?_
  refine s_callVI C K hms hmn (c_X12_sentence_e Wm hm km w1.2.1) hm km (by decide) rfl v_L_173 rfl ⟨rfl, rfl⟩ ⟨Nat.le_of_ble_eq_true rfl, Nat.le_of_ble_eq_true rfl⟩ (Nat.le_of_ble_eq_true rfl) hcs dL_law_1237 (st := []) rfl (fun r2 Ia2 Ja2 h2 Ib2 Jb2 ea2 eb2 fa2 fb2 => ?_)
  have hf9 := lf_sen hL0 hO hP hw hb0 ht0 hn0 h1.2.2.2.2.2.1 ea1 eb1 fb1 h2.2.2.2.2.2.2.1 ea2 eb2
  have ht2 := lt_m hL0 hO ht1 h2.2.2.2.2.2.1 h2.2.1 (by decide) ea2 eb2
  have hn2 := ln_m hL0 hO hP hn1 h2.2.1 (by decide) h2.2.2.1 (by decide) ea2 eb2 fa2 fb2
  have hb2 := lb_m hL0 hb1 h2.2.1 (by decide) ea2 eb2 fb2
  have q2 : Ia2 mm 2 = 0 := h2.2.2.2.2.2.2.2
  have w2 := lm_set hL0 w1 h2.1 q2 ea2 eb2
  refine g_pop C dL_law_1240 rfl ?_
  refine g_goto C (tgt := 1344) dL_law_1241 (by decide) ?_
  have hb9 := lb_le hb2 (tz_le rfl (lw_0 hL0 hw).1)
  exact a_wide (Nat.le_succ _) (Nat.le_add_right _ 6) (hend _ _ _ w2 hb9 ht2 hn2 hf9)
set_option maxRecDepth 100000 in
set_option maxHeartbeats 4000000 in
theorem k_said {p : Program} {l : Launch} {e : Env} {s : State} {m : MethodId} {below : List Frame} {meth : Method} {c : Code} {D : va_G} {cy : Nat → ClassId} {L LX LM : List Nat} {κ ln : Nat → Nat} {R : Nat → Nat → Option Nat} {I : Nat → Nat → Int32} {J : Nat → Nat → Int64} {ow : Nat → Nat × Nat} {x mm oo tp b N : Nat} {th trd tA tb0 tb1 tt0 tt1 rnw rkp rkt rnm rkn : Nat} {xs : Nat → Int32} (H : Lc_ p s m c D cy L b N xs) (hL : Lv_ L LX LM κ ln R ow x mm oo tp) (hO : Lo_ LX LM κ R ow x mm th trd tA tb0 tb1 tt0 tt1 rnw rkp rkt) (hP : Lpn_ LM κ R ow mm rnm rkn) {c0 : Int32} (hw : Lw_ LX LM κ R ow mm tp I (c0) (c0)) (hb0 : Lb_ R mm tp I J c0) (ht0 : Lt_ R th tb0 tb1 tt0 tt1 rnw rkp rkt I) (hn0 : Ln_ R th tt0 tt1 rkp rnm rkn I J) (hf0 : Lf_ mm tp I) {i : Nat} (hi : i + 6 ≤ N) (hN : N ≤ 3072) {cells slots : Nat} (hc1 : cells + 1 ≤ 601024) (hc2 : slots + 6 ≤ 7293034) (hend : ∀ (I2 : Nat → Nat → Int32) (J2 : Nat → Nat → Int64) (c2 : Int32), Lw_ LX LM κ R ow mm tp I2 (c2) (c2) → Lb_ R mm tp I2 J2 c2 → Lt_ R th tb0 tb1 tt0 tt1 rnw rkp rkt I2 → Ln_ R th tt0 tt1 rkp rnm rkn I2 J2 → Lf_ mm tp I2 → WG p l e room_1 s m #[Value.ref b] below meth c 7 (cells + 1) (slots + 6) (lw_Z below #[Value.ref b] s) D cy (AN_ [] s.heap.size) s.heap L κ ln R I2 J2 1344 [(4, .int (nI i)), (3, .ref oo), (2, .ref mm), (1, .ref x), (0, .ref b)] []) : WG p l e room_1 s m #[Value.ref b] below meth c 7 cells slots (lw_Z below #[Value.ref b] s) D cy (AN_ [] s.heap.size) s.heap L κ ln R I J 1244 [(4, .int (nI i)), (3, .ref oo), (2, .ref mm), (1, .ref x), (0, .ref b)] [] := by
  obtain ⟨C, K, hX, hbl, hbA⟩ := H
  have hL0 := hL
  obtain ⟨hxs, hxn, hms, hmn, hdj, Wx, Wm, ⟨hx, kx⟩, ⟨hm, km⟩, ⟨hoo, koo, noo⟩, ⟨hR, htp, ktp⟩⟩ := hL
  have hcs : cells + 0 ≤ room_1.cells ∧ slots + 0 ≤ room_1.slots := ⟨show cells + 0 ≤ 601024 by omega, show slots + 0 ≤ 7293034 by omega⟩
  refine g_aload_n C 3 dL_law_1244 rfl rfl ?_
  refine g_aload_n C 4 dL_law_1245 rfl rfl ?_
  refine g_iload C 0 dL_law_1246 rfl ?_
  refine g_iconst C (v := 1) dL_law_1248 (by decide) ?_
  refine g_iadd C (v := nI (i + 1)) dL_law_1249 (nI_a i 1) ?_
  refine g_sld C (v := xs (i + 1)) hX hbl hbA (xs_in hi (by decide) hN) (xs_at_ hi (by decide) hN) dL_law_1250 ?_
  refine s_callVI C K hxs hxn (c_X11_said Wx hx kx (xs (i + 1)) hw.1) hx kx (by decide) rfl v_L_174 rfl ⟨rfl, rfl⟩ ⟨Nat.le_of_ble_eq_true rfl, Nat.le_of_ble_eq_true rfl⟩ (Nat.le_of_ble_eq_true rfl) hcs dL_law_1251 (st := []) rfl (fun r1 Ia1 Ja1 h1 Ib1 Jb1 ea1 eb1 fa1 fb1 => ?_)
  have hf1 := lf_x hL0 hf0 h1.2.1 (by decide) ea1 eb1
  have ht1 := lt_xf hL0 hO ht0 h1.2.1 (by decide) ea1 eb1
  have hn1 := ln_xf hL0 hO hP hn0 h1.2.1 (by decide) h1.2.2.1 (by decide) ea1 eb1 fa1 fb1
  have hb1 := lb_x hL0 hb0 h1.2.1 h1.2.2.1 (by decide) (by decide) ea1 eb1 fa1
  have w1 := lx_keep hL0 hw h1.1 h1.2.1 (by decide) ea1 eb1
  refine g_pop C dL_law_1254 rfl ?_
  refine g_aload_n C 2 dL_law_1255 rfl rfl ?_
  refine g_aload_n C 4 dL_law_1256 rfl rfl ?_
  refine g_iload C 0 dL_law_1257 rfl ?_
  refine g_iconst C (v := 1) dL_law_1259 (by decide) ?_
  refine g_iadd C (v := nI (i + 1)) dL_law_1260 (nI_a i 1) ?_
  refine g_sld C (v := xs (i + 1)) hX hbl hbA (xs_in hi (by decide) hN) (xs_at_ hi (by decide) hN) dL_law_1261 ?_
  refine s_callVI C K hms hmn (c_X12_said Wm hm km (xs (i + 1)) w1.2.1) hm km (by decide) rfl v_L_177 rfl ⟨rfl, rfl⟩ ⟨Nat.le_of_ble_eq_true rfl, Nat.le_of_ble_eq_true rfl⟩ (Nat.le_of_ble_eq_true rfl) hcs dL_law_1262 (st := []) rfl (fun r2 Ia2 Ja2 h2 Ib2 Jb2 ea2 eb2 fa2 fb2 => ?_)
  have hf2 := lf_m hL0 hf1 h2.2.1 (by decide) ea2 eb2
  have ht2 := lt_mf hL0 hO ht1 h2.2.1 (by decide) ea2 eb2
  have hn2 := ln_m hL0 hO hP hn1 h2.2.1 (by decide) h2.2.2.1 (by decide) ea2 eb2 fa2 fb2
  have hb2 := lb_m hL0 hb1 h2.2.1 (by decide) ea2 eb2 fb2
  have w2 := lm_keep hL0 w1 h2.1 h2.2.1 (by decide) ea2 eb2
  refine g_pop C dL_law_1265 rfl ?_
  refine g_goto C (tgt := 1344) dL_law_1266 (by decide) ?_
  exact a_wide (Nat.le_succ _) (Nat.le_add_right _ 6) (hend _ _ _ w2 hb2 ht2 hn2 hf2)
set_option maxRecDepth 100000 in
set_option maxHeartbeats 4000000 in
theorem k_image {p : Program} {l : Launch} {e : Env} {s : State} {m : MethodId} {below : List Frame} {meth : Method} {c : Code} {D : va_G} {cy : Nat → ClassId} {L LX LM : List Nat} {κ ln : Nat → Nat} {R : Nat → Nat → Option Nat} {I : Nat → Nat → Int32} {J : Nat → Nat → Int64} {ow : Nat → Nat × Nat} {x mm oo tp b N : Nat} {th trd tA tb0 tb1 tt0 tt1 rnw rkp rkt rnm rkn : Nat} {xs : Nat → Int32} (H : Lc_ p s m c D cy L b N xs) (hL : Lv_ L LX LM κ ln R ow x mm oo tp) (hO : Lo_ LX LM κ R ow x mm th trd tA tb0 tb1 tt0 tt1 rnw rkp rkt) (hP : Lpn_ LM κ R ow mm rnm rkn) {c0 : Int32} (hw : Lw_ LX LM κ R ow mm tp I (c0) (c0)) (hb0 : Lb_ R mm tp I J c0) (ht0 : Lt_ R th tb0 tb1 tt0 tt1 rnw rkp rkt I) (hn0 : Ln_ R th tt0 tt1 rkp rnm rkn I J) (hf0 : Lf_ mm tp I) {i : Nat} (hi : i + 6 ≤ N) (hN : N ≤ 3072) {cells slots : Nat} (hc1 : cells + 1 ≤ 601024) (hc2 : slots + 6 ≤ 7293034) (hend : ∀ (I2 : Nat → Nat → Int32) (J2 : Nat → Nat → Int64) (c2 : Int32), Lw_ LX LM κ R ow mm tp I2 (c2) (c2) → Lb_ R mm tp I2 J2 c2 → Lt_ R th tb0 tb1 tt0 tt1 rnw rkp rkt I2 → Ln_ R th tt0 tt1 rkp rnm rkn I2 J2 → Lf_ mm tp I2 → WG p l e room_1 s m #[Value.ref b] below meth c 7 (cells + 1) (slots + 6) (lw_Z below #[Value.ref b] s) D cy (AN_ [] s.heap.size) s.heap L κ ln R I2 J2 1344 [(4, .int (nI i)), (3, .ref oo), (2, .ref mm), (1, .ref x), (0, .ref b)] []) : WG p l e room_1 s m #[Value.ref b] below meth c 7 cells slots (lw_Z below #[Value.ref b] s) D cy (AN_ [] s.heap.size) s.heap L κ ln R I J 1269 [(4, .int (nI i)), (3, .ref oo), (2, .ref mm), (1, .ref x), (0, .ref b)] [] := by
  obtain ⟨C, K, hX, hbl, hbA⟩ := H
  have hL0 := hL
  obtain ⟨hxs, hxn, hms, hmn, hdj, Wx, Wm, ⟨hx, kx⟩, ⟨hm, km⟩, ⟨hoo, koo, noo⟩, ⟨hR, htp, ktp⟩⟩ := hL
  have hcs : cells + 0 ≤ room_1.cells ∧ slots + 0 ≤ room_1.slots := ⟨show cells + 0 ≤ 601024 by omega, show slots + 0 ≤ 7293034 by omega⟩
  refine g_aload_n C 3 dL_law_1269 rfl rfl ?_
  refine g_aload_n C 4 dL_law_1270 rfl rfl ?_
  refine g_iload C 0 dL_law_1271 rfl ?_
  refine g_iconst C (v := 1) dL_law_1273 (by decide) ?_
  refine g_iadd C (v := nI (i + 1)) dL_law_1274 (nI_a i 1) ?_
  refine g_sld C (v := xs (i + 1)) hX hbl hbA (xs_in hi (by decide) hN) (xs_at_ hi (by decide) hN) dL_law_1275 ?_
  refine s_callVI C K hxs hxn (c_X11_image Wx hx kx (xs (i + 1)) hw.1) hx kx (by decide) rfl v_L_178 rfl ⟨rfl, rfl⟩ ⟨Nat.le_of_ble_eq_true rfl, Nat.le_of_ble_eq_true rfl⟩ (Nat.le_of_ble_eq_true rfl) hcs dL_law_1276 (st := []) rfl (fun r1 Ia1 Ja1 h1 Ib1 Jb1 ea1 eb1 fa1 fb1 => ?_)
  have hf1 := lf_x hL0 hf0 h1.2.1 (by decide) ea1 eb1
  have hb1 := lb_x hL0 hb0 h1.2.1 h1.2.2.1 (by decide) (by decide) ea1 eb1 fa1
  have w1 := lx_keep hL0 hw h1.1 h1.2.1 (by decide) ea1 eb1
  refine g_pop C dL_law_1279 rfl ?_
  refine g_aload_n C 2 dL_law_1280 rfl rfl ?_
  refine g_aload_n C 4 dL_law_1281 rfl rfl ?_
  refine g_iload C 0 dL_law_1282 rfl ?_
  refine g_iconst C (v := 1) dL_law_1284 (by decide) ?_
  refine g_iadd C (v := nI (i + 1)) dL_law_1285 (nI_a i 1) ?_
  refine g_sld C (v := xs (i + 1)) hX hbl hbA (xs_in hi (by decide) hN) (xs_at_ hi (by decide) hN) dL_law_1286 ?_
  refine s_callVI C K hms hmn (c_X12_image Wm hm km (xs (i + 1)) w1.2.1) hm km (by decide) rfl v_L_181 rfl ⟨rfl, rfl⟩ ⟨Nat.le_of_ble_eq_true rfl, Nat.le_of_ble_eq_true rfl⟩ (Nat.le_of_ble_eq_true rfl) hcs dL_law_1287 (st := []) rfl (fun r2 Ia2 Ja2 h2 Ib2 Jb2 ea2 eb2 fa2 fb2 => ?_)
  have hf2 := lf_m hL0 hf1 h2.2.1 (by decide) ea2 eb2
  have ht9 := lt_image hL0 hO ht0 h1.2.2.2.2.1 h1.2.2.2.2.2.1 h1.2.2.2.2.2.2.1 ea1 eb1 h2.2.1 (by decide) h2.2.2.2.2.1 h2.2.2.2.2.2.1 ea2 eb2
  have hn9 := ln_image hL0 hO hP hn0 h1.2.2.2.2.1 h1.2.2.2.2.2.2.2.1 h1.2.2.2.2.2.2.1 h1.2.2.2.2.2.2.2.2 ea1 eb1 fa1 fb1 h2.2.2.2.2.1 h2.2.2.2.2.2.2 ea2 eb2 fa2 fb2
  have hb2 := lb_m hL0 hb1 h2.2.1 (by decide) ea2 eb2 fb2
  have w2 := lm_keep hL0 w1 h2.1 h2.2.1 (by decide) ea2 eb2
  refine g_pop C dL_law_1290 rfl ?_
  refine g_goto C (tgt := 1344) dL_law_1291 (by decide) ?_
  exact a_wide (Nat.le_succ _) (Nat.le_add_right _ 6) (hend _ _ _ w2 hb2 ht9 hn9 hf2)
set_option maxRecDepth 100000 in
set_option maxHeartbeats 4000000 in
theorem k_restore {p : Program} {l : Launch} {e : Env} {s : State} {m : MethodId} {below : List Frame} {meth : Method} {c : Code} {D : va_G} {cy : Nat → ClassId} {L LX LM : List Nat} {κ ln : Nat → Nat} {R : Nat → Nat → Option Nat} {I : Nat → Nat → Int32} {J : Nat → Nat → Int64} {ow : Nat → Nat × Nat} {x mm oo tp b N : Nat} {th trd tA tb0 tb1 tt0 tt1 rnw rkp rkt rnm rkn : Nat} {xs : Nat → Int32} (H : Lc_ p s m c D cy L b N xs) (hL : Lv_ L LX LM κ ln R ow x mm oo tp) (hO : Lo_ LX LM κ R ow x mm th trd tA tb0 tb1 tt0 tt1 rnw rkp rkt) (hP : Lpn_ LM κ R ow mm rnm rkn) {c0 : Int32} (hw : Lw_ LX LM κ R ow mm tp I (c0) (c0)) (hb0 : Lb_ R mm tp I J c0) (ht0 : Lt_ R th tb0 tb1 tt0 tt1 rnw rkp rkt I) (hn0 : Ln_ R th tt0 tt1 rkp rnm rkn I J) (hf0 : Lf_ mm tp I) {i : Nat} (hi : i + 6 ≤ N) (hN : N ≤ 3072) {cells slots : Nat} (hc1 : cells + 1 ≤ 601024) (hc2 : slots + 6 ≤ 7293034) (hend : ∀ (I2 : Nat → Nat → Int32) (J2 : Nat → Nat → Int64) (c2 : Int32), Lw_ LX LM κ R ow mm tp I2 (c2) (c2) → Lb_ R mm tp I2 J2 c2 → Lt_ R th tb0 tb1 tt0 tt1 rnw rkp rkt I2 → Ln_ R th tt0 tt1 rkp rnm rkn I2 J2 → Lf_ mm tp I2 → WG p l e room_1 s m #[Value.ref b] below meth c 7 (cells + 1) (slots + 6) (lw_Z below #[Value.ref b] s) D cy (AN_ [] s.heap.size) s.heap L κ ln R I2 J2 1344 [(4, .int (nI i)), (3, .ref oo), (2, .ref mm), (1, .ref x), (0, .ref b)] []) : WG p l e room_1 s m #[Value.ref b] below meth c 7 cells slots (lw_Z below #[Value.ref b] s) D cy (AN_ [] s.heap.size) s.heap L κ ln R I J 1294 [(4, .int (nI i)), (3, .ref oo), (2, .ref mm), (1, .ref x), (0, .ref b)] [] := by
  obtain ⟨C, K, hX, hbl, hbA⟩ := H
  have hL0 := hL
  obtain ⟨hxs, hxn, hms, hmn, hdj, Wx, Wm, ⟨hx, kx⟩, ⟨hm, km⟩, ⟨hoo, koo, noo⟩, ⟨hR, htp, ktp⟩⟩ := hL
  have hcs : cells + 0 ≤ room_1.cells ∧ slots + 0 ≤ room_1.slots := ⟨show cells + 0 ≤ 601024 by omega, show slots + 0 ≤ 7293034 by omega⟩
  refine g_aload_n C 3 dL_law_1294 rfl rfl ?_
  refine g_aload_n C 4 dL_law_1295 rfl rfl ?_
  refine g_iload C 0 dL_law_1296 rfl ?_
  refine g_iconst C (v := 1) dL_law_1298 (by decide) ?_
  refine g_iadd C (v := nI (i + 1)) dL_law_1299 (nI_a i 1) ?_
  refine g_sld C (v := xs (i + 1)) hX hbl hbA (xs_in hi (by decide) hN) (xs_at_ hi (by decide) hN) dL_law_1300 ?_
  refine s_callVI C K hxs hxn (c_X11_restore Wx hx kx (xs (i + 1)) hw.1) hx kx (by decide) rfl v_L_182 rfl ⟨rfl, rfl⟩ ⟨Nat.le_of_ble_eq_true rfl, Nat.le_of_ble_eq_true rfl⟩ (Nat.le_of_ble_eq_true rfl) hcs dL_law_1301 (st := []) rfl (fun r1 Ia1 Ja1 h1 Ib1 Jb1 ea1 eb1 fa1 fb1 => ?_)
  have hf1 := lf_x hL0 hf0 h1.2.1 (by decide) ea1 eb1
  have hb1 := lb_x hL0 hb0 h1.2.1 h1.2.2.1 (by decide) (by decide) ea1 eb1 fa1
  have w1 := lx_keep hL0 hw h1.1 h1.2.1 (by decide) ea1 eb1
  refine g_pop C dL_law_1304 rfl ?_
  refine g_aload_n C 2 dL_law_1305 rfl rfl ?_
  refine g_aload_n C 4 dL_law_1306 rfl rfl ?_
  refine g_iload C 0 dL_law_1307 rfl ?_
  refine g_iconst C (v := 1) dL_law_1309 (by decide) ?_
  refine g_iadd C (v := nI (i + 1)) dL_law_1310 (nI_a i 1) ?_
  refine g_sld C (v := xs (i + 1)) hX hbl hbA (xs_in hi (by decide) hN) (xs_at_ hi (by decide) hN) dL_law_1311 ?_
  refine s_callVI C K hms hmn (c_X12_restore Wm hm km (xs (i + 1)) w1.2.1) hm km (by decide) rfl v_L_185 rfl ⟨rfl, rfl⟩ ⟨Nat.le_of_ble_eq_true rfl, Nat.le_of_ble_eq_true rfl⟩ (Nat.le_of_ble_eq_true rfl) hcs dL_law_1312 (st := []) rfl (fun r2 Ia2 Ja2 h2 Ib2 Jb2 ea2 eb2 fa2 fb2 => ?_)
  have hf2 := lf_m hL0 hf1 h2.2.1 (by decide) ea2 eb2
  have ht9 := lt_restore hL0 hO ht0 h1.2.1 (by decide) h1.2.2.2.2.1 h1.2.2.2.2.2.1 h1.2.2.2.2.2.2.1 ea1 eb1 h2.2.1 (by decide) h2.2.2.2.2.1 h2.2.2.2.2.2.1 ea2 eb2
  have hn9 := ln_restore hL0 hO hP ht0 hn0 h1.2.2.2.2.1 h1.2.2.2.2.2.2.2.1 h1.2.2.2.2.2.1 h1.2.2.2.2.2.2.1 h1.2.2.2.2.2.2.2.2 ea1 eb1 fa1 fb1 h2.2.1 (by decide) h2.2.2.1 (by decide) h2.2.2.2.2.1 h2.2.2.2.2.2.2 ea2 eb2 fa2 fb2
  have hb2 := lb_m hL0 hb1 h2.2.1 (by decide) ea2 eb2 fb2
  have w2 := lm_keep hL0 w1 h2.1 h2.2.1 (by decide) ea2 eb2
  refine g_pop C dL_law_1315 rfl ?_
  refine g_goto C (tgt := 1344) dL_law_1316 (by decide) ?_
  exact a_wide (Nat.le_succ _) (Nat.le_add_right _ 6) (hend _ _ _ w2 hb2 ht9 hn9 hf2)
set_option maxRecDepth 100000 in
set_option maxHeartbeats 4000000 in
theorem k_count {p : Program} {l : Launch} {e : Env} {s : State} {m : MethodId} {below : List Frame} {meth : Method} {c : Code} {D : va_G} {cy : Nat → ClassId} {L LX LM : List Nat} {κ ln : Nat → Nat} {R : Nat → Nat → Option Nat} {I : Nat → Nat → Int32} {J : Nat → Nat → Int64} {ow : Nat → Nat × Nat} {x mm oo tp b N : Nat} {th trd tA tb0 tb1 tt0 tt1 rnw rkp rkt rnm rkn : Nat} {xs : Nat → Int32} (H : Lc_ p s m c D cy L b N xs) (hL : Lv_ L LX LM κ ln R ow x mm oo tp) (hO : Lo_ LX LM κ R ow x mm th trd tA tb0 tb1 tt0 tt1 rnw rkp rkt) (hP : Lpn_ LM κ R ow mm rnm rkn) {c0 : Int32} (hw : Lw_ LX LM κ R ow mm tp I (c0) (c0)) (hb0 : Lb_ R mm tp I J c0) (ht0 : Lt_ R th tb0 tb1 tt0 tt1 rnw rkp rkt I) (hn0 : Ln_ R th tt0 tt1 rkp rnm rkn I J) (hf0 : Lf_ mm tp I) {i : Nat} (hi : i + 6 ≤ N) (hN : N ≤ 3072) {cells slots : Nat} (hc1 : cells + 1 ≤ 601024) (hc2 : slots + 6 ≤ 7293034) (hend : ∀ (I2 : Nat → Nat → Int32) (J2 : Nat → Nat → Int64) (c2 : Int32), Lw_ LX LM κ R ow mm tp I2 (c2) (c2) → Lb_ R mm tp I2 J2 c2 → Lt_ R th tb0 tb1 tt0 tt1 rnw rkp rkt I2 → Ln_ R th tt0 tt1 rkp rnm rkn I2 J2 → Lf_ mm tp I2 → WG p l e room_1 s m #[Value.ref b] below meth c 7 (cells + 1) (slots + 6) (lw_Z below #[Value.ref b] s) D cy (AN_ [] s.heap.size) s.heap L κ ln R I2 J2 1344 [(4, .int (nI i)), (3, .ref oo), (2, .ref mm), (1, .ref x), (0, .ref b)] []) : WG p l e room_1 s m #[Value.ref b] below meth c 7 cells slots (lw_Z below #[Value.ref b] s) D cy (AN_ [] s.heap.size) s.heap L κ ln R I J 1319 [(4, .int (nI i)), (3, .ref oo), (2, .ref mm), (1, .ref x), (0, .ref b)] [] := by
  obtain ⟨C, K, hX, hbl, hbA⟩ := H
  have hL0 := hL
  obtain ⟨hxs, hxn, hms, hmn, hdj, Wx, Wm, ⟨hx, kx⟩, ⟨hm, km⟩, ⟨hoo, koo, noo⟩, ⟨hR, htp, ktp⟩⟩ := hL
  have hcs : cells + 0 ≤ room_1.cells ∧ slots + 0 ≤ room_1.slots := ⟨show cells + 0 ≤ 601024 by omega, show slots + 0 ≤ 7293034 by omega⟩
  refine g_aload_n C 3 dL_law_1319 rfl rfl ?_
  refine g_aload_n C 4 dL_law_1320 rfl rfl ?_
  refine g_iload C 0 dL_law_1321 rfl ?_
  refine g_iconst C (v := 1) dL_law_1323 (by decide) ?_
  refine g_iadd C (v := nI (i + 1)) dL_law_1324 (nI_a i 1) ?_
  refine g_sld C (v := xs (i + 1)) hX hbl hbA (xs_in hi (by decide) hN) (xs_at_ hi (by decide) hN) dL_law_1325 ?_
  refine s_callVI C K hxs hxn (c_X11_count Wx hx kx (xs (i + 1)) hw.1) hx kx (by decide) rfl v_L_186 rfl ⟨rfl, rfl⟩ ⟨Nat.le_of_ble_eq_true rfl, Nat.le_of_ble_eq_true rfl⟩ (Nat.le_of_ble_eq_true rfl) hcs dL_law_1326 (st := []) rfl (fun r1 Ia1 Ja1 h1 Ib1 Jb1 ea1 eb1 fa1 fb1 => ?_)
  have hf1 := lf_xp hL0 hf0 h1.1 ea1 eb1
  have ht1 := lt_xp hL0 hO ht0 h1.1 ea1 eb1
  have hn1 := ln_xp hL0 hO hP hn0 h1.1 h1.2.1 ea1 eb1 fa1 fb1
  have hb1 := lb_xp hL0 hb0 h1.1 h1.2.1 ea1 eb1 fa1
  have w1 := lx_pure hL0 hw h1.1 ea1 eb1
  refine g_pop C dL_law_1329 rfl ?_
  refine g_aload_n C 2 dL_law_1330 rfl rfl ?_
  refine g_aload_n C 4 dL_law_1331 rfl rfl ?_
  refine g_iload C 0 dL_law_1332 rfl ?_
  refine g_iconst C (v := 1) dL_law_1334 (by decide) ?_
  refine g_iadd C (v := nI (i + 1)) dL_law_1335 (nI_a i 1) ?_
  refine g_sld C (v := xs (i + 1)) hX hbl hbA (xs_in hi (by decide) hN) (xs_at_ hi (by decide) hN) dL_law_1336 ?_
  refine s_callVI C K hms hmn (c_X12_count Wm hm km (xs (i + 1)) w1.2.1) hm km (by decide) rfl v_L_189 rfl ⟨rfl, rfl⟩ ⟨Nat.le_of_ble_eq_true rfl, Nat.le_of_ble_eq_true rfl⟩ (Nat.le_of_ble_eq_true rfl) hcs dL_law_1337 (st := []) rfl (fun r2 Ia2 Ja2 h2 Ib2 Jb2 ea2 eb2 fa2 fb2 => ?_)
  have hf2 := lf_m hL0 hf1 h2.2.1 (by decide) ea2 eb2
  have ht2 := lt_mf hL0 hO ht1 h2.2.1 (by decide) ea2 eb2
  have hn2 := ln_m hL0 hO hP hn1 h2.2.1 (by decide) h2.2.2.1 (by decide) ea2 eb2 fa2 fb2
  have hb2 := lb_m hL0 hb1 h2.2.1 (by decide) ea2 eb2 fb2
  have w2 := lm_keep hL0 w1 h2.1 h2.2.1 (by decide) ea2 eb2
  refine g_pop C dL_law_1340 rfl ?_
  refine g_goto C (tgt := 1344) dL_law_1341 (by decide) ?_
  exact a_wide (Nat.le_succ _) (Nat.le_add_right _ 6) (hend _ _ _ w2 hb2 ht2 hn2 hf2)
set_option maxRecDepth 100000 in
set_option maxHeartbeats 4000000 in
theorem lw_loop {p : Program} {l : Launch} {e : Env} {s : State} {m : MethodId} {below : List Frame} {meth : Method} {c : Code} {D : va_G} {cy : Nat → ClassId} {L LX LM : List Nat} {κ ln : Nat → Nat} {R : Nat → Nat → Option Nat} {I : Nat → Nat → Int32} {J : Nat → Nat → Int64} {ow : Nat → Nat × Nat} {x mm oo tp b N : Nat} {th trd tA tb0 tb1 tt0 tt1 rnw rkp rkt rnm rkn : Nat} {xs : Nat → Int32} (H : Lc_ p s m c D cy L b N xs) (hN : N ≤ 3072) (hL : Lv_ L LX LM κ ln R ow x mm oo tp) (hO : Lo_ LX LM κ R ow x mm th trd tA tb0 tb1 tt0 tt1 rnw rkp rkt) (hP : Lpn_ LM κ R ow mm rnm rkn) (hst : l.stackTraces = false) {sa sb : Nat} (hE : Ep_ sa sb (AN_ [] s.heap.size) s) {k0 v0 k1 v1 k2 v2 k3 v3 : Nat} {f0 f1 f2 f3 : Nat → Int32} (hE2 : Ew_ k0 v0 k1 v1 k2 v2 k3 v3 f0 f1 f2 f3 (AN_ [] s.heap.size) s) (hr : meth.sig.returnType = ret) (hk : meth.locks = false) : ∀ (n i : Nat) (I : Nat → Nat → Int32) (J : Nat → Nat → Int64) (c0 : Int32), N < i + n → i ≤ 4000 → Lw_ LX LM κ R ow mm tp I (c0) (c0) → Lb_ R mm tp I J c0 → Lt_ R th tb0 tb1 tt0 tt1 rnw rkp rkt I → Ln_ R th tt0 tt1 rkp rnm rkn I J → Lf_ mm tp I → WG p l e room_1 s m #[Value.ref b] below meth c 7 (248 + i) (11281 + 6 * i) (lw_Z below #[Value.ref b] s) D cy (AN_ [] s.heap.size) s.heap L κ ln R I J 23 [(4, .int (nI i)), (3, .ref oo), (2, .ref mm), (1, .ref x), (0, .ref b)] [] := by
  have hC := H
  obtain ⟨C, K, hX, hbl, hbA⟩ := H
  intro n
  induction n with
  | zero =>
    intro i I J c0 hn hi hw hb0 ht0 hn0 hf0
    refine g_iload C 0 dL_law_23 rfl ?_
    refine g_aload_n C 4 dL_law_25 rfl rfl ?_
    refine g_slen C hX hbl hbA dL_law_26 ?_
    refine g_bipush C (v := 6) dL_law_27 (by decide) ?_
    refine g_isub C (v := nI N - 6) dL_law_29 rfl ?_
    refine g_icmp_gt C (tgt := 1350) dL_law_30 (by decide) (fun _ => lw_one hC hr hk (by omega) (by omega)) (fun h => absurd (n6_lt hN hi h) (by omega))
  | succ n ih =>
    intro i I J c0 hn hi hw hb0 ht0 hn0 hf0
    refine g_iload C 0 dL_law_23 rfl ?_
    refine g_aload_n C 4 dL_law_25 rfl rfl ?_
    refine g_slen C hX hbl hbA dL_law_26 ?_
    refine g_bipush C (v := 6) dL_law_27 (by decide) ?_
    refine g_isub C (v := nI N - 6) dL_law_29 rfl ?_
    refine g_icmp_gt C (tgt := 1350) dL_law_30 (by decide) (fun _ => lw_one hC hr hk (by omega) (by omega)) (fun h => ?_)
    have h6 := n6_lt hN hi h
    refine g_aload_n C 4 dL_law_33 rfl rfl ?_
    refine g_iload C 0 dL_law_34 rfl ?_
    refine g_sld C (v := xs i) hX hbl hbA (xs_in (j := 0) h6 (by decide) hN) (xs_at_ (j := 0) h6 (by decide) hN) dL_law_36 ?_
    refine g_bipush C (v := 63) dL_law_37 (by decide) ?_
    refine g_iand C (v := xs i &&& 63) dL_law_39 rfl ?_
    generalize xs i &&& 63 = v
    have hend : ∀ (I2 : Nat → Nat → Int32) (J2 : Nat → Nat → Int64) (c2 : Int32), Lw_ LX LM κ R ow mm tp I2 (c2) (c2) → Lb_ R mm tp I2 J2 c2 → Lt_ R th tb0 tb1 tt0 tt1 rnw rkp rkt I2 → Ln_ R th tt0 tt1 rkp rnm rkn I2 J2 → Lf_ mm tp I2 → WG p l e room_1 s m #[Value.ref b] below meth c 7 (248 + i + 1) (11281 + 6 * i + 6) (lw_Z below #[Value.ref b] s) D cy (AN_ [] s.heap.size) s.heap L κ ln R I2 J2 1344 [(4, .int (nI i)), (3, .ref oo), (2, .ref mm), (1, .ref x), (0, .ref b)] [] := by
      intro I2 J2 c2 hw2 hb2 ht2 hn2 hf2
      refine g_iinc C (v := nI (i + 6)) (k := 0) dL_law_1344 rfl (nI_a i 6) (by decide) (lo2 := [(4, .int (nI (i + 6))), (3, .ref oo), (2, .ref mm), (1, .ref x), (0, .ref b)]) rfl ?_
      refine g_goto C (tgt := 23) dL_law_1347 (by decide) ?_
      exact a_wide (by omega) (by omega) (ih (i + 6) I2 J2 c2 (by omega) (by omega) hw2 hb2 ht2 hn2 hf2)
    have hc1 : 248 + i + 1 ≤ 601024 := by omega
    have hc2 : 11281 + 6 * i + 6 ≤ 7293034 := by omega
    by_cases c0 : v.toInt = 0
    · exact g_tableIn C (tgt := 220) (off := 180) dL_law_40 (by omega) (by omega) (by rw [c0]; rfl) (by decide) (k_feed hC hL hO hP hw hb0 ht0 hn0 hf0 h6 hN hc1 hc2 hend)
    by_cases c1 : v.toInt = 1
    · exact g_tableIn C (tgt := 293) (off := 253) dL_law_40 (by omega) (by omega) (by rw [c1]; rfl) (by decide) (k_end hC hL hO hP hw hb0 ht0 hn0 hf0 h6 hN hc1 hc2 hend)
    by_cases c2 : v.toInt = 2
    · exact g_tableIn C (tgt := 318) (off := 278) dL_law_40 (by omega) (by omega) (by rw [c2]; rfl) (by decide) (k_table hC hL hO hP hw hb0 ht0 hn0 hf0 h6 hN hc1 hc2 hend)
    by_cases c3 : v.toInt = 3
    · exact g_tableIn C (tgt := 331) (off := 291) dL_law_40 (by omega) (by omega) (by rw [c3]; rfl) (by decide) (k_fault hC hL hO hP hw hb0 ht0 hn0 hf0 h6 hN hc1 hc2 hend)
    by_cases c4 : v.toInt = 4
    · exact g_tableIn C (tgt := 344) (off := 304) dL_law_40 (by omega) (by omega) (by rw [c4]; rfl) (by decide) (k_person hC hL hO hP hst hE hw hb0 ht0 hn0 hf0 h6 hN hc1 hc2 hend)
    by_cases c5 : v.toInt = 5
    · exact g_tableIn C (tgt := 384) (off := 344) dL_law_40 (by omega) (by omega) (by rw [c5]; rfl) (by decide) (k_plate hC hL hO hP hw hb0 ht0 hn0 hf0 h6 hN hc1 hc2 hend)
    by_cases c6 : v.toInt = 6
    · exact g_tableIn C (tgt := 421) (off := 381) dL_law_40 (by omega) (by omega) (by rw [c6]; rfl) (by decide) (k_dish hC hL hO hP hw hb0 ht0 hn0 hf0 h6 hN hc1 hc2 hend)
    by_cases c7 : v.toInt = 7
    · exact g_tableIn C (tgt := 458) (off := 418) dL_law_40 (by omega) (by omega) (by rw [c7]; rfl) (by decide) (k_now hC hL hO hP hw hb0 ht0 hn0 hf0 h6 hN hc1 hc2 hend)
    by_cases c8 : v.toInt = 8
    · exact g_tableIn C (tgt := 483) (off := 443) dL_law_40 (by omega) (by omega) (by rw [c8]; rfl) (by decide) (k_eat hC hL hO hP hw hb0 ht0 hn0 hf0 h6 hN hc1 hc2 hend)
    by_cases c9 : v.toInt = 9
    · exact g_tableIn C (tgt := 532) (off := 492) dL_law_40 (by omega) (by omega) (by rw [c9]; rfl) (by decide) (k_serve hC hL hO hP hw hb0 ht0 hn0 hf0 h6 hN hc1 hc2 hend)
    by_cases c10 : v.toInt = 10
    · exact g_tableIn C (tgt := 581) (off := 541) dL_law_40 (by omega) (by omega) (by rw [c10]; rfl) (by decide) (k_rise hC hL hO hP hw hb0 ht0 hn0 hf0 h6 hN hc1 hc2 hend)
    by_cases c11 : v.toInt = 11
    · exact g_tableIn C (tgt := 606) (off := 566) dL_law_40 (by omega) (by omega) (by rw [c11]; rfl) (by decide) (k_refuse hC hL hO hP hw hb0 ht0 hn0 hf0 h6 hN hc1 hc2 hend)
    by_cases c12 : v.toInt = 12
    · exact g_tableIn C (tgt := 631) (off := 591) dL_law_40 (by omega) (by omega) (by rw [c12]; rfl) (by decide) (k_accept hC hL hO hP hw hb0 ht0 hn0 hf0 h6 hN hc1 hc2 hend)
    by_cases c13 : v.toInt = 13
    · exact g_tableIn C (tgt := 656) (off := 616) dL_law_40 (by omega) (by omega) (by rw [c13]; rfl) (by decide) (k_die hC hL hO hP hw hb0 ht0 hn0 hf0 h6 hN hc1 hc2 hend)
    by_cases c14 : v.toInt = 14
    · exact g_tableIn C (tgt := 681) (off := 641) dL_law_40 (by omega) (by omega) (by rw [c14]; rfl) (by decide) (k_meals hC hL hO hP hw hb0 ht0 hn0 hf0 h6 hN hc1 hc2 hend)
    by_cases c15 : v.toInt = 15
    · exact g_tableIn C (tgt := 706) (off := 666) dL_law_40 (by omega) (by omega) (by rw [c15]; rfl) (by decide) (k_undo hC hL hO hP hw hb0 ht0 hn0 hf0 h6 hN hc1 hc2 hend)
    by_cases c16 : v.toInt = 16
    · exact g_tableIn C (tgt := 719) (off := 679) dL_law_40 (by omega) (by omega) (by rw [c16]; rfl) (by decide) (k_heir hC hL hO hP hw hb0 ht0 hn0 hf0 h6 hN hc1 hc2 hend)
    by_cases c17 : v.toInt = 17
    · exact g_tableIn C (tgt := 744) (off := 704) dL_law_40 (by omega) (by omega) (by rw [c17]; rfl) (by decide) (k_line hC hL hO hP hw hb0 ht0 hn0 hf0 h6 hN hc1 hc2 hend)
    by_cases c18 : v.toInt = 18
    · exact g_tableIn C (tgt := 781) (off := 741) dL_law_40 (by omega) (by omega) (by rw [c18]; rfl) (by decide) (k_order hC hL hO hP hw hb0 ht0 hn0 hf0 h6 hN hc1 hc2 hend)
    by_cases c19 : v.toInt = 19
    · exact g_tableIn C (tgt := 794) (off := 754) dL_law_40 (by omega) (by omega) (by rw [c19]; rfl) (by decide) (k_orderAt hC hL hO hP hw hb0 ht0 hn0 hf0 h6 hN hc1 hc2 hend)
    by_cases c20 : v.toInt = 20
    · exact g_tableIn C (tgt := 819) (off := 779) dL_law_40 (by omega) (by omega) (by rw [c20]; rfl) (by decide) (k_eaters hC hL hO hP hw hb0 ht0 hn0 hf0 h6 hN hc1 hc2 hend)
    by_cases c21 : v.toInt = 21
    · exact g_tableIn C (tgt := 832) (off := 792) dL_law_40 (by omega) (by omega) (by rw [c21]; rfl) (by decide) (k_surely hC hL hO hP hw hb0 ht0 hn0 hf0 h6 hN hc1 hc2 hend)
    by_cases c22 : v.toInt = 22
    · exact g_tableIn C (tgt := 845) (off := 805) dL_law_40 (by omega) (by omega) (by rw [c22]; rfl) (by decide) (k_ask hC hL hO hP hw hb0 ht0 hn0 hf0 h6 hN hc1 hc2 hend)
    by_cases c23 : v.toInt = 23
    · exact g_tableIn C (tgt := 858) (off := 818) dL_law_40 (by omega) (by omega) (by rw [c23]; rfl) (by decide) (k_share hC hL hO hP hw hb0 ht0 hn0 hf0 h6 hN hc1 hc2 hend)
    by_cases c24 : v.toInt = 24
    · exact g_tableIn C (tgt := 907) (off := 867) dL_law_40 (by omega) (by omega) (by rw [c24]; rfl) (by decide) (k_last hC hL hO hP hw hb0 ht0 hn0 hf0 h6 hN hc1 hc2 hend)
    by_cases c25 : v.toInt = 25
    · exact g_tableIn C (tgt := 932) (off := 892) dL_law_40 (by omega) (by omega) (by rw [c25]; rfl) (by decide) (k_seats hC hL hO hP hw hb0 ht0 hn0 hf0 h6 hN hc1 hc2 hend)
    by_cases c26 : v.toInt = 26
    · exact g_tableIn C (tgt := 945) (off := 905) dL_law_40 (by omega) (by omega) (by rw [c26]; rfl) (by decide) (k_seatAt hC hL hO hP hw hb0 ht0 hn0 hf0 h6 hN hc1 hc2 hend)
    by_cases c27 : v.toInt = 27
    · exact g_tableIn C (tgt := 970) (off := 930) dL_law_40 (by omega) (by omega) (by rw [c27]; rfl) (by decide) (k_left hC hL hO hP hw hb0 ht0 hn0 hf0 h6 hN hc1 hc2 hend)
    by_cases c28 : v.toInt = 28
    · exact g_tableIn C (tgt := 995) (off := 955) dL_law_40 (by omega) (by omega) (by rw [c28]; rfl) (by decide) (k_kin hC hL hO hP hw hb0 ht0 hn0 hf0 h6 hN hc1 hc2 hend)
    by_cases c29 : v.toInt = 29
    · exact g_tableIn C (tgt := 1032) (off := 992) dL_law_40 (by omega) (by omega) (by rw [c29]; rfl) (by decide) (k_hungriest hC hL hO hP hw hb0 ht0 hn0 hf0 h6 hN hc1 hc2 hend)
    by_cases c30 : v.toInt = 30
    · exact g_tableIn C (tgt := 1045) (off := 1005) dL_law_40 (by omega) (by omega) (by rw [c30]; rfl) (by decide) (k_will hC hL hO hP hE2 hw hb0 ht0 hn0 hf0 h6 hN hc1 hc2 hend)
    by_cases c31 : v.toInt = 31
    · exact g_tableIn C (tgt := 1070) (off := 1030) dL_law_40 (by omega) (by omega) (by rw [c31]; rfl) (by decide) (k_byteAt hC hL hO hP hw hb0 ht0 hn0 hf0 h6 hN hc1 hc2 hend)
    by_cases c32 : v.toInt = 32
    · exact g_tableIn C (tgt := 1095) (off := 1055) dL_law_40 (by omega) (by omega) (by rw [c32]; rfl) (by decide) (k_drawn hC hL hO hP hw hb0 ht0 hn0 hf0 h6 hN hc1 hc2 hend)
    by_cases c33 : v.toInt = 33
    · exact g_tableIn C (tgt := 1132) (off := 1092) dL_law_40 (by omega) (by omega) (by rw [c33]; rfl) (by decide) (k_odds hC hL hO hP hw hb0 ht0 hn0 hf0 h6 hN hc1 hc2 hend)
    by_cases c34 : v.toInt = 34
    · exact g_tableIn C (tgt := 1181) (off := 1141) dL_law_40 (by omega) (by omega) (by rw [c34]; rfl) (by decide) (k_book hC hL hO hP hw hb0 ht0 hn0 hf0 h6 hN hc1 hc2 hend)
    by_cases c35 : v.toInt = 35
    · exact g_tableIn C (tgt := 1206) (off := 1166) dL_law_40 (by omega) (by omega) (by rw [c35]; rfl) (by decide) (k_told hC hL hO hP hw hb0 ht0 hn0 hf0 h6 hN hc1 hc2 hend)
    by_cases c36 : v.toInt = 36
    · exact g_tableIn C (tgt := 1231) (off := 1191) dL_law_40 (by omega) (by omega) (by rw [c36]; rfl) (by decide) (k_sentence hC hL hO hP hw hb0 ht0 hn0 hf0 h6 hN hc1 hc2 hend)
    by_cases c37 : v.toInt = 37
    · exact g_tableIn C (tgt := 1244) (off := 1204) dL_law_40 (by omega) (by omega) (by rw [c37]; rfl) (by decide) (k_said hC hL hO hP hw hb0 ht0 hn0 hf0 h6 hN hc1 hc2 hend)
    by_cases c38 : v.toInt = 38
    · exact g_tableIn C (tgt := 1269) (off := 1229) dL_law_40 (by omega) (by omega) (by rw [c38]; rfl) (by decide) (k_image hC hL hO hP hw hb0 ht0 hn0 hf0 h6 hN hc1 hc2 hend)
    by_cases c39 : v.toInt = 39
    · exact g_tableIn C (tgt := 1294) (off := 1254) dL_law_40 (by omega) (by omega) (by rw [c39]; rfl) (by decide) (k_restore hC hL hO hP hw hb0 ht0 hn0 hf0 h6 hN hc1 hc2 hend)
    by_cases c40 : v.toInt = 40
    · exact g_tableIn C (tgt := 1319) (off := 1279) dL_law_40 (by omega) (by omega) (by rw [c40]; rfl) (by decide) (k_count hC hL hO hP hw hb0 ht0 hn0 hf0 h6 hN hc1 hc2 hend)
    refine g_tableOut C (tgt := 1344) dL_law_40 (by omega) (by decide) ?_
    exact a_wide (Nat.le_succ _) (Nat.le_add_right _ 6) (hend I J _ hw hb0 ht0 hn0 hf0)
