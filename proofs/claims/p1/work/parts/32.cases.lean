theorem dL_law_23 : decode cL_law 23 = .ok (.iload 4, 2) := by decide +kernel
theorem dL_law_25 : decode cL_law 25 = .ok (.aload_n 0, 1) := by decide +kernel
theorem dL_law_26 : decode cL_law 26 = .ok (.arraylength, 1) := by decide +kernel
theorem dL_law_27 : decode cL_law 27 = .ok (.bipush 6, 2) := by decide +kernel
theorem dL_law_29 : decode cL_law 29 = .ok (.isub, 1) := by decide +kernel
theorem dL_law_30 : decode cL_law 30 = .ok (.if_icmp .gt 1348, 3) := by decide +kernel
theorem dL_law_33 : decode cL_law 33 = .ok (.aload_n 0, 1) := by decide +kernel
theorem dL_law_34 : decode cL_law 34 = .ok (.iload 4, 2) := by decide +kernel
theorem dL_law_36 : decode cL_law 36 = .ok (.iaload, 1) := by decide +kernel
theorem dL_law_37 : decode cL_law 37 = .ok (.bipush 63, 2) := by decide +kernel
theorem dL_law_39 : decode cL_law 39 = .ok (.iand, 1) := by decide +kernel
theorem dL_law_40 : decode cL_law 40 = .ok (.tableswitch 1332 0 40 #[180, 253, 278, 291, 304, 372, 409, 446, 471, 520, 569, 594, 619, 644, 669, 694, 707, 732, 769, 782, 807, 820, 833, 846, 895, 920, 933, 958, 983, 1020, 1033, 1058, 1083, 1120, 1169, 1194, 1219, 1232, 1257, 1282, 1307], 180) := by decide +kernel
theorem dL_law_220 : decode cL_law 220 = .ok (.aload_n 1, 1) := by decide +kernel
theorem dL_law_221 : decode cL_law 221 = .ok (.aload_n 0, 1) := by decide +kernel
theorem dL_law_222 : decode cL_law 222 = .ok (.iload 4, 2) := by decide +kernel
theorem dL_law_224 : decode cL_law 224 = .ok (.iconst 1, 1) := by decide +kernel
theorem dL_law_225 : decode cL_law 225 = .ok (.iadd, 1) := by decide +kernel
theorem dL_law_226 : decode cL_law 226 = .ok (.iaload, 1) := by decide +kernel
theorem dL_law_227 : decode cL_law 227 = .ok (.aload_n 0, 1) := by decide +kernel
theorem dL_law_228 : decode cL_law 228 = .ok (.iload 4, 2) := by decide +kernel
theorem dL_law_230 : decode cL_law 230 = .ok (.iconst 2, 1) := by decide +kernel
theorem dL_law_231 : decode cL_law 231 = .ok (.iadd, 1) := by decide +kernel
theorem dL_law_232 : decode cL_law 232 = .ok (.iaload, 1) := by decide +kernel
theorem dL_law_233 : decode cL_law 233 = .ok (.aload_n 0, 1) := by decide +kernel
theorem dL_law_234 : decode cL_law 234 = .ok (.iload 4, 2) := by decide +kernel
theorem dL_law_236 : decode cL_law 236 = .ok (.iconst 3, 1) := by decide +kernel
theorem dL_law_237 : decode cL_law 237 = .ok (.iadd, 1) := by decide +kernel
theorem dL_law_238 : decode cL_law 238 = .ok (.iaload, 1) := by decide +kernel
theorem dL_law_239 : decode cL_law 239 = .ok (.aload_n 0, 1) := by decide +kernel
theorem dL_law_240 : decode cL_law 240 = .ok (.iload 4, 2) := by decide +kernel
theorem dL_law_242 : decode cL_law 242 = .ok (.iconst 4, 1) := by decide +kernel
theorem dL_law_243 : decode cL_law 243 = .ok (.iadd, 1) := by decide +kernel
theorem dL_law_244 : decode cL_law 244 = .ok (.iaload, 1) := by decide +kernel
theorem dL_law_245 : decode cL_law 245 = .ok (.aload_n 0, 1) := by decide +kernel
theorem dL_law_246 : decode cL_law 246 = .ok (.iload 4, 2) := by decide +kernel
theorem dL_law_248 : decode cL_law 248 = .ok (.iconst 5, 1) := by decide +kernel
theorem dL_law_249 : decode cL_law 249 = .ok (.iadd, 1) := by decide +kernel
theorem dL_law_250 : decode cL_law 250 = .ok (.iaload, 1) := by decide +kernel
theorem dL_law_251 : decode cL_law 251 = .ok (.invokevirtual 19, 3) := by decide +kernel
theorem dL_law_254 : decode cL_law 254 = .ok (.aload_n 2, 1) := by decide +kernel
theorem dL_law_255 : decode cL_law 255 = .ok (.aload_n 0, 1) := by decide +kernel
theorem dL_law_256 : decode cL_law 256 = .ok (.iload 4, 2) := by decide +kernel
theorem dL_law_258 : decode cL_law 258 = .ok (.iconst 1, 1) := by decide +kernel
theorem dL_law_259 : decode cL_law 259 = .ok (.iadd, 1) := by decide +kernel
theorem dL_law_260 : decode cL_law 260 = .ok (.iaload, 1) := by decide +kernel
theorem dL_law_261 : decode cL_law 261 = .ok (.aload_n 0, 1) := by decide +kernel
theorem dL_law_262 : decode cL_law 262 = .ok (.iload 4, 2) := by decide +kernel
theorem dL_law_264 : decode cL_law 264 = .ok (.iconst 2, 1) := by decide +kernel
theorem dL_law_265 : decode cL_law 265 = .ok (.iadd, 1) := by decide +kernel
theorem dL_law_266 : decode cL_law 266 = .ok (.iaload, 1) := by decide +kernel
theorem dL_law_267 : decode cL_law 267 = .ok (.aload_n 0, 1) := by decide +kernel
theorem dL_law_268 : decode cL_law 268 = .ok (.iload 4, 2) := by decide +kernel
theorem dL_law_270 : decode cL_law 270 = .ok (.iconst 3, 1) := by decide +kernel
theorem dL_law_271 : decode cL_law 271 = .ok (.iadd, 1) := by decide +kernel
theorem dL_law_272 : decode cL_law 272 = .ok (.iaload, 1) := by decide +kernel
theorem dL_law_273 : decode cL_law 273 = .ok (.aload_n 0, 1) := by decide +kernel
theorem dL_law_274 : decode cL_law 274 = .ok (.iload 4, 2) := by decide +kernel
theorem dL_law_276 : decode cL_law 276 = .ok (.iconst 4, 1) := by decide +kernel
theorem dL_law_277 : decode cL_law 277 = .ok (.iadd, 1) := by decide +kernel
theorem dL_law_278 : decode cL_law 278 = .ok (.iaload, 1) := by decide +kernel
theorem dL_law_279 : decode cL_law 279 = .ok (.aload_n 0, 1) := by decide +kernel
theorem dL_law_280 : decode cL_law 280 = .ok (.iload 4, 2) := by decide +kernel
theorem dL_law_282 : decode cL_law 282 = .ok (.iconst 5, 1) := by decide +kernel
theorem dL_law_283 : decode cL_law 283 = .ok (.iadd, 1) := by decide +kernel
theorem dL_law_284 : decode cL_law 284 = .ok (.iaload, 1) := by decide +kernel
theorem dL_law_285 : decode cL_law 285 = .ok (.invokevirtual 23, 3) := by decide +kernel
theorem dL_law_288 : decode cL_law 288 = .ok (.if_icmp .eq 1084, 3) := by decide +kernel
theorem dL_law_293 : decode cL_law 293 = .ok (.aload_n 1, 1) := by decide +kernel
theorem dL_law_294 : decode cL_law 294 = .ok (.aload_n 0, 1) := by decide +kernel
theorem dL_law_295 : decode cL_law 295 = .ok (.iload 4, 2) := by decide +kernel
theorem dL_law_297 : decode cL_law 297 = .ok (.iconst 1, 1) := by decide +kernel
theorem dL_law_298 : decode cL_law 298 = .ok (.iadd, 1) := by decide +kernel
theorem dL_law_299 : decode cL_law 299 = .ok (.iaload, 1) := by decide +kernel
theorem dL_law_300 : decode cL_law 300 = .ok (.invokevirtual 24, 3) := by decide +kernel
theorem dL_law_303 : decode cL_law 303 = .ok (.aload_n 2, 1) := by decide +kernel
theorem dL_law_304 : decode cL_law 304 = .ok (.aload_n 0, 1) := by decide +kernel
theorem dL_law_305 : decode cL_law 305 = .ok (.iload 4, 2) := by decide +kernel
theorem dL_law_307 : decode cL_law 307 = .ok (.iconst 1, 1) := by decide +kernel
theorem dL_law_308 : decode cL_law 308 = .ok (.iadd, 1) := by decide +kernel
theorem dL_law_309 : decode cL_law 309 = .ok (.iaload, 1) := by decide +kernel
theorem dL_law_310 : decode cL_law 310 = .ok (.invokevirtual 28, 3) := by decide +kernel
theorem dL_law_313 : decode cL_law 313 = .ok (.if_icmp .eq 1059, 3) := by decide +kernel
theorem dL_law_318 : decode cL_law 318 = .ok (.aload_n 1, 1) := by decide +kernel
theorem dL_law_319 : decode cL_law 319 = .ok (.invokevirtual 29, 3) := by decide +kernel
theorem dL_law_322 : decode cL_law 322 = .ok (.aload_n 2, 1) := by decide +kernel
theorem dL_law_323 : decode cL_law 323 = .ok (.invokevirtual 33, 3) := by decide +kernel
theorem dL_law_326 : decode cL_law 326 = .ok (.if_icmp .eq 1046, 3) := by decide +kernel
theorem dL_law_331 : decode cL_law 331 = .ok (.aload_n 1, 1) := by decide +kernel
theorem dL_law_332 : decode cL_law 332 = .ok (.invokevirtual 34, 3) := by decide +kernel
theorem dL_law_335 : decode cL_law 335 = .ok (.aload_n 2, 1) := by decide +kernel
theorem dL_law_336 : decode cL_law 336 = .ok (.invokevirtual 37, 3) := by decide +kernel
theorem dL_law_339 : decode cL_law 339 = .ok (.if_icmp .eq 1033, 3) := by decide +kernel
theorem dL_law_344 : decode cL_law 344 = .ok (.aload_n 1, 1) := by decide +kernel
theorem dL_law_345 : decode cL_law 345 = .ok (.aload_n 0, 1) := by decide +kernel
theorem dL_law_346 : decode cL_law 346 = .ok (.iload 4, 2) := by decide +kernel
theorem dL_law_348 : decode cL_law 348 = .ok (.iconst 1, 1) := by decide +kernel
theorem dL_law_349 : decode cL_law 349 = .ok (.iadd, 1) := by decide +kernel
theorem dL_law_350 : decode cL_law 350 = .ok (.iaload, 1) := by decide +kernel
theorem dL_law_351 : decode cL_law 351 = .ok (.aload_n 0, 1) := by decide +kernel
theorem dL_law_352 : decode cL_law 352 = .ok (.iload 4, 2) := by decide +kernel
theorem dL_law_354 : decode cL_law 354 = .ok (.iconst 2, 1) := by decide +kernel
theorem dL_law_355 : decode cL_law 355 = .ok (.iadd, 1) := by decide +kernel
theorem dL_law_356 : decode cL_law 356 = .ok (.iaload, 1) := by decide +kernel
theorem dL_law_357 : decode cL_law 357 = .ok (.aload_n 3, 1) := by decide +kernel
theorem dL_law_358 : decode cL_law 358 = .ok (.invokestatic 38, 3) := by decide +kernel
theorem dL_law_361 : decode cL_law 361 = .ok (.istore 5, 2) := by decide +kernel
theorem dL_law_363 : decode cL_law 363 = .ok (.aload_n 2, 1) := by decide +kernel
theorem dL_law_364 : decode cL_law 364 = .ok (.aload_n 0, 1) := by decide +kernel
theorem dL_law_365 : decode cL_law 365 = .ok (.iload 4, 2) := by decide +kernel
theorem dL_law_367 : decode cL_law 367 = .ok (.iconst 1, 1) := by decide +kernel
theorem dL_law_368 : decode cL_law 368 = .ok (.iadd, 1) := by decide +kernel
theorem dL_law_369 : decode cL_law 369 = .ok (.iaload, 1) := by decide +kernel
theorem dL_law_370 : decode cL_law 370 = .ok (.aload_n 0, 1) := by decide +kernel
theorem dL_law_371 : decode cL_law 371 = .ok (.iload 4, 2) := by decide +kernel
theorem dL_law_373 : decode cL_law 373 = .ok (.iconst 2, 1) := by decide +kernel
theorem dL_law_374 : decode cL_law 374 = .ok (.iadd, 1) := by decide +kernel
theorem dL_law_375 : decode cL_law 375 = .ok (.iaload, 1) := by decide +kernel
theorem dL_law_376 : decode cL_law 376 = .ok (.invokevirtual 43, 3) := by decide +kernel
theorem dL_law_379 : decode cL_law 379 = .ok (.istore 6, 2) := by decide +kernel
theorem dL_law_381 : decode cL_law 381 = .ok (.aload_n 2, 1) := by decide +kernel
theorem dL_law_382 : decode cL_law 382 = .ok (.invokevirtual 44, 3) := by decide +kernel
theorem dL_law_385 : decode cL_law 385 = .ok (.iload 5, 2) := by decide +kernel
theorem dL_law_387 : decode cL_law 387 = .ok (.if_icmp .eq 5, 3) := by decide +kernel
theorem dL_law_392 : decode cL_law 392 = .ok (.iload 5, 2) := by decide +kernel
theorem dL_law_394 : decode cL_law 394 = .ok (.ifCond .ne 15, 3) := by decide +kernel
theorem dL_law_409 : decode cL_law 409 = .ok (.goto 963, 3) := by decide +kernel
theorem dL_law_412 : decode cL_law 412 = .ok (.aload_n 1, 1) := by decide +kernel
theorem dL_law_413 : decode cL_law 413 = .ok (.aload_n 0, 1) := by decide +kernel
theorem dL_law_414 : decode cL_law 414 = .ok (.iload 4, 2) := by decide +kernel
theorem dL_law_416 : decode cL_law 416 = .ok (.iconst 1, 1) := by decide +kernel
theorem dL_law_417 : decode cL_law 417 = .ok (.iadd, 1) := by decide +kernel
theorem dL_law_418 : decode cL_law 418 = .ok (.iaload, 1) := by decide +kernel
theorem dL_law_419 : decode cL_law 419 = .ok (.aload_n 0, 1) := by decide +kernel
theorem dL_law_420 : decode cL_law 420 = .ok (.iload 4, 2) := by decide +kernel
theorem dL_law_422 : decode cL_law 422 = .ok (.iconst 2, 1) := by decide +kernel
theorem dL_law_423 : decode cL_law 423 = .ok (.iadd, 1) := by decide +kernel
theorem dL_law_424 : decode cL_law 424 = .ok (.iaload, 1) := by decide +kernel
theorem dL_law_425 : decode cL_law 425 = .ok (.invokevirtual 47, 3) := by decide +kernel
theorem dL_law_428 : decode cL_law 428 = .ok (.aload_n 2, 1) := by decide +kernel
theorem dL_law_429 : decode cL_law 429 = .ok (.aload_n 0, 1) := by decide +kernel
theorem dL_law_430 : decode cL_law 430 = .ok (.iload 4, 2) := by decide +kernel
theorem dL_law_432 : decode cL_law 432 = .ok (.iconst 1, 1) := by decide +kernel
theorem dL_law_433 : decode cL_law 433 = .ok (.iadd, 1) := by decide +kernel
theorem dL_law_434 : decode cL_law 434 = .ok (.iaload, 1) := by decide +kernel
theorem dL_law_435 : decode cL_law 435 = .ok (.aload_n 0, 1) := by decide +kernel
theorem dL_law_436 : decode cL_law 436 = .ok (.iload 4, 2) := by decide +kernel
theorem dL_law_438 : decode cL_law 438 = .ok (.iconst 2, 1) := by decide +kernel
theorem dL_law_439 : decode cL_law 439 = .ok (.iadd, 1) := by decide +kernel
theorem dL_law_440 : decode cL_law 440 = .ok (.iaload, 1) := by decide +kernel
theorem dL_law_441 : decode cL_law 441 = .ok (.invokevirtual 50, 3) := by decide +kernel
theorem dL_law_444 : decode cL_law 444 = .ok (.if_icmp .eq 928, 3) := by decide +kernel
theorem dL_law_449 : decode cL_law 449 = .ok (.aload_n 1, 1) := by decide +kernel
theorem dL_law_450 : decode cL_law 450 = .ok (.aload_n 0, 1) := by decide +kernel
theorem dL_law_451 : decode cL_law 451 = .ok (.iload 4, 2) := by decide +kernel
theorem dL_law_453 : decode cL_law 453 = .ok (.iconst 1, 1) := by decide +kernel
theorem dL_law_454 : decode cL_law 454 = .ok (.iadd, 1) := by decide +kernel
theorem dL_law_455 : decode cL_law 455 = .ok (.iaload, 1) := by decide +kernel
theorem dL_law_456 : decode cL_law 456 = .ok (.aload_n 0, 1) := by decide +kernel
theorem dL_law_457 : decode cL_law 457 = .ok (.iload 4, 2) := by decide +kernel
theorem dL_law_459 : decode cL_law 459 = .ok (.iconst 2, 1) := by decide +kernel
theorem dL_law_460 : decode cL_law 460 = .ok (.iadd, 1) := by decide +kernel
theorem dL_law_461 : decode cL_law 461 = .ok (.iaload, 1) := by decide +kernel
theorem dL_law_462 : decode cL_law 462 = .ok (.invokevirtual 51, 3) := by decide +kernel
theorem dL_law_465 : decode cL_law 465 = .ok (.aload_n 2, 1) := by decide +kernel
theorem dL_law_466 : decode cL_law 466 = .ok (.aload_n 0, 1) := by decide +kernel
theorem dL_law_467 : decode cL_law 467 = .ok (.iload 4, 2) := by decide +kernel
theorem dL_law_469 : decode cL_law 469 = .ok (.iconst 1, 1) := by decide +kernel
theorem dL_law_470 : decode cL_law 470 = .ok (.iadd, 1) := by decide +kernel
theorem dL_law_471 : decode cL_law 471 = .ok (.iaload, 1) := by decide +kernel
theorem dL_law_472 : decode cL_law 472 = .ok (.aload_n 0, 1) := by decide +kernel
theorem dL_law_473 : decode cL_law 473 = .ok (.iload 4, 2) := by decide +kernel
theorem dL_law_475 : decode cL_law 475 = .ok (.iconst 2, 1) := by decide +kernel
theorem dL_law_476 : decode cL_law 476 = .ok (.iadd, 1) := by decide +kernel
theorem dL_law_477 : decode cL_law 477 = .ok (.iaload, 1) := by decide +kernel
theorem dL_law_478 : decode cL_law 478 = .ok (.invokevirtual 54, 3) := by decide +kernel
theorem dL_law_481 : decode cL_law 481 = .ok (.if_icmp .eq 891, 3) := by decide +kernel
theorem dL_law_486 : decode cL_law 486 = .ok (.aload_n 1, 1) := by decide +kernel
theorem dL_law_487 : decode cL_law 487 = .ok (.aload_n 0, 1) := by decide +kernel
theorem dL_law_488 : decode cL_law 488 = .ok (.iload 4, 2) := by decide +kernel
theorem dL_law_490 : decode cL_law 490 = .ok (.iconst 1, 1) := by decide +kernel
theorem dL_law_491 : decode cL_law 491 = .ok (.iadd, 1) := by decide +kernel
theorem dL_law_492 : decode cL_law 492 = .ok (.iaload, 1) := by decide +kernel
theorem dL_law_493 : decode cL_law 493 = .ok (.invokevirtual 55, 3) := by decide +kernel
theorem dL_law_496 : decode cL_law 496 = .ok (.aload_n 2, 1) := by decide +kernel
theorem dL_law_497 : decode cL_law 497 = .ok (.aload_n 0, 1) := by decide +kernel
theorem dL_law_498 : decode cL_law 498 = .ok (.iload 4, 2) := by decide +kernel
theorem dL_law_500 : decode cL_law 500 = .ok (.iconst 1, 1) := by decide +kernel
theorem dL_law_501 : decode cL_law 501 = .ok (.iadd, 1) := by decide +kernel
theorem dL_law_502 : decode cL_law 502 = .ok (.iaload, 1) := by decide +kernel
theorem dL_law_503 : decode cL_law 503 = .ok (.invokevirtual 59, 3) := by decide +kernel
theorem dL_law_506 : decode cL_law 506 = .ok (.if_icmp .eq 866, 3) := by decide +kernel
theorem dL_law_511 : decode cL_law 511 = .ok (.aload_n 1, 1) := by decide +kernel
theorem dL_law_512 : decode cL_law 512 = .ok (.aload_n 0, 1) := by decide +kernel
theorem dL_law_513 : decode cL_law 513 = .ok (.iload 4, 2) := by decide +kernel
theorem dL_law_515 : decode cL_law 515 = .ok (.iconst 1, 1) := by decide +kernel
theorem dL_law_516 : decode cL_law 516 = .ok (.iadd, 1) := by decide +kernel
theorem dL_law_517 : decode cL_law 517 = .ok (.iaload, 1) := by decide +kernel
theorem dL_law_518 : decode cL_law 518 = .ok (.aload_n 0, 1) := by decide +kernel
theorem dL_law_519 : decode cL_law 519 = .ok (.iload 4, 2) := by decide +kernel
theorem dL_law_521 : decode cL_law 521 = .ok (.iconst 2, 1) := by decide +kernel
theorem dL_law_522 : decode cL_law 522 = .ok (.iadd, 1) := by decide +kernel
theorem dL_law_523 : decode cL_law 523 = .ok (.iaload, 1) := by decide +kernel
theorem dL_law_524 : decode cL_law 524 = .ok (.aload_n 0, 1) := by decide +kernel
theorem dL_law_525 : decode cL_law 525 = .ok (.iload 4, 2) := by decide +kernel
theorem dL_law_527 : decode cL_law 527 = .ok (.iconst 3, 1) := by decide +kernel
theorem dL_law_528 : decode cL_law 528 = .ok (.iadd, 1) := by decide +kernel
theorem dL_law_529 : decode cL_law 529 = .ok (.iaload, 1) := by decide +kernel
theorem dL_law_530 : decode cL_law 530 = .ok (.invokevirtual 60, 3) := by decide +kernel
theorem dL_law_533 : decode cL_law 533 = .ok (.aload_n 2, 1) := by decide +kernel
theorem dL_law_534 : decode cL_law 534 = .ok (.aload_n 0, 1) := by decide +kernel
theorem dL_law_535 : decode cL_law 535 = .ok (.iload 4, 2) := by decide +kernel
theorem dL_law_537 : decode cL_law 537 = .ok (.iconst 1, 1) := by decide +kernel
theorem dL_law_538 : decode cL_law 538 = .ok (.iadd, 1) := by decide +kernel
theorem dL_law_539 : decode cL_law 539 = .ok (.iaload, 1) := by decide +kernel
theorem dL_law_540 : decode cL_law 540 = .ok (.aload_n 0, 1) := by decide +kernel
theorem dL_law_541 : decode cL_law 541 = .ok (.iload 4, 2) := by decide +kernel
theorem dL_law_543 : decode cL_law 543 = .ok (.iconst 2, 1) := by decide +kernel
theorem dL_law_544 : decode cL_law 544 = .ok (.iadd, 1) := by decide +kernel
theorem dL_law_545 : decode cL_law 545 = .ok (.iaload, 1) := by decide +kernel
theorem dL_law_546 : decode cL_law 546 = .ok (.aload_n 0, 1) := by decide +kernel
theorem dL_law_547 : decode cL_law 547 = .ok (.iload 4, 2) := by decide +kernel
theorem dL_law_549 : decode cL_law 549 = .ok (.iconst 3, 1) := by decide +kernel
theorem dL_law_550 : decode cL_law 550 = .ok (.iadd, 1) := by decide +kernel
theorem dL_law_551 : decode cL_law 551 = .ok (.iaload, 1) := by decide +kernel
theorem dL_law_552 : decode cL_law 552 = .ok (.invokevirtual 64, 3) := by decide +kernel
theorem dL_law_555 : decode cL_law 555 = .ok (.if_icmp .eq 817, 3) := by decide +kernel
theorem dL_law_560 : decode cL_law 560 = .ok (.aload_n 1, 1) := by decide +kernel
theorem dL_law_561 : decode cL_law 561 = .ok (.aload_n 0, 1) := by decide +kernel
theorem dL_law_562 : decode cL_law 562 = .ok (.iload 4, 2) := by decide +kernel
theorem dL_law_564 : decode cL_law 564 = .ok (.iconst 1, 1) := by decide +kernel
theorem dL_law_565 : decode cL_law 565 = .ok (.iadd, 1) := by decide +kernel
theorem dL_law_566 : decode cL_law 566 = .ok (.iaload, 1) := by decide +kernel
theorem dL_law_567 : decode cL_law 567 = .ok (.aload_n 0, 1) := by decide +kernel
theorem dL_law_568 : decode cL_law 568 = .ok (.iload 4, 2) := by decide +kernel
theorem dL_law_570 : decode cL_law 570 = .ok (.iconst 2, 1) := by decide +kernel
theorem dL_law_571 : decode cL_law 571 = .ok (.iadd, 1) := by decide +kernel
theorem dL_law_572 : decode cL_law 572 = .ok (.iaload, 1) := by decide +kernel
theorem dL_law_573 : decode cL_law 573 = .ok (.aload_n 0, 1) := by decide +kernel
theorem dL_law_574 : decode cL_law 574 = .ok (.iload 4, 2) := by decide +kernel
theorem dL_law_576 : decode cL_law 576 = .ok (.iconst 3, 1) := by decide +kernel
theorem dL_law_577 : decode cL_law 577 = .ok (.iadd, 1) := by decide +kernel
theorem dL_law_578 : decode cL_law 578 = .ok (.iaload, 1) := by decide +kernel
theorem dL_law_579 : decode cL_law 579 = .ok (.invokevirtual 65, 3) := by decide +kernel
theorem dL_law_582 : decode cL_law 582 = .ok (.aload_n 2, 1) := by decide +kernel
theorem dL_law_583 : decode cL_law 583 = .ok (.aload_n 0, 1) := by decide +kernel
theorem dL_law_584 : decode cL_law 584 = .ok (.iload 4, 2) := by decide +kernel
theorem dL_law_586 : decode cL_law 586 = .ok (.iconst 1, 1) := by decide +kernel
theorem dL_law_587 : decode cL_law 587 = .ok (.iadd, 1) := by decide +kernel
theorem dL_law_588 : decode cL_law 588 = .ok (.iaload, 1) := by decide +kernel
theorem dL_law_589 : decode cL_law 589 = .ok (.aload_n 0, 1) := by decide +kernel
theorem dL_law_590 : decode cL_law 590 = .ok (.iload 4, 2) := by decide +kernel
theorem dL_law_592 : decode cL_law 592 = .ok (.iconst 2, 1) := by decide +kernel
theorem dL_law_593 : decode cL_law 593 = .ok (.iadd, 1) := by decide +kernel
theorem dL_law_594 : decode cL_law 594 = .ok (.iaload, 1) := by decide +kernel
theorem dL_law_595 : decode cL_law 595 = .ok (.aload_n 0, 1) := by decide +kernel
theorem dL_law_596 : decode cL_law 596 = .ok (.iload 4, 2) := by decide +kernel
theorem dL_law_598 : decode cL_law 598 = .ok (.iconst 3, 1) := by decide +kernel
theorem dL_law_599 : decode cL_law 599 = .ok (.iadd, 1) := by decide +kernel
theorem dL_law_600 : decode cL_law 600 = .ok (.iaload, 1) := by decide +kernel
theorem dL_law_601 : decode cL_law 601 = .ok (.invokevirtual 68, 3) := by decide +kernel
theorem dL_law_604 : decode cL_law 604 = .ok (.if_icmp .eq 768, 3) := by decide +kernel
theorem dL_law_609 : decode cL_law 609 = .ok (.aload_n 1, 1) := by decide +kernel
theorem dL_law_610 : decode cL_law 610 = .ok (.aload_n 0, 1) := by decide +kernel
theorem dL_law_611 : decode cL_law 611 = .ok (.iload 4, 2) := by decide +kernel
theorem dL_law_613 : decode cL_law 613 = .ok (.iconst 1, 1) := by decide +kernel
theorem dL_law_614 : decode cL_law 614 = .ok (.iadd, 1) := by decide +kernel
theorem dL_law_615 : decode cL_law 615 = .ok (.iaload, 1) := by decide +kernel
theorem dL_law_616 : decode cL_law 616 = .ok (.invokevirtual 69, 3) := by decide +kernel
theorem dL_law_619 : decode cL_law 619 = .ok (.aload_n 2, 1) := by decide +kernel
theorem dL_law_620 : decode cL_law 620 = .ok (.aload_n 0, 1) := by decide +kernel
theorem dL_law_621 : decode cL_law 621 = .ok (.iload 4, 2) := by decide +kernel
theorem dL_law_623 : decode cL_law 623 = .ok (.iconst 1, 1) := by decide +kernel
theorem dL_law_624 : decode cL_law 624 = .ok (.iadd, 1) := by decide +kernel
theorem dL_law_625 : decode cL_law 625 = .ok (.iaload, 1) := by decide +kernel
theorem dL_law_626 : decode cL_law 626 = .ok (.invokevirtual 72, 3) := by decide +kernel
theorem dL_law_629 : decode cL_law 629 = .ok (.if_icmp .eq 743, 3) := by decide +kernel
theorem dL_law_634 : decode cL_law 634 = .ok (.aload_n 1, 1) := by decide +kernel
theorem dL_law_635 : decode cL_law 635 = .ok (.aload_n 0, 1) := by decide +kernel
theorem dL_law_636 : decode cL_law 636 = .ok (.iload 4, 2) := by decide +kernel
theorem dL_law_638 : decode cL_law 638 = .ok (.iconst 1, 1) := by decide +kernel
theorem dL_law_639 : decode cL_law 639 = .ok (.iadd, 1) := by decide +kernel
theorem dL_law_640 : decode cL_law 640 = .ok (.iaload, 1) := by decide +kernel
theorem dL_law_641 : decode cL_law 641 = .ok (.invokevirtual 73, 3) := by decide +kernel
theorem dL_law_644 : decode cL_law 644 = .ok (.aload_n 2, 1) := by decide +kernel
theorem dL_law_645 : decode cL_law 645 = .ok (.aload_n 0, 1) := by decide +kernel
theorem dL_law_646 : decode cL_law 646 = .ok (.iload 4, 2) := by decide +kernel
theorem dL_law_648 : decode cL_law 648 = .ok (.iconst 1, 1) := by decide +kernel
theorem dL_law_649 : decode cL_law 649 = .ok (.iadd, 1) := by decide +kernel
theorem dL_law_650 : decode cL_law 650 = .ok (.iaload, 1) := by decide +kernel
theorem dL_law_651 : decode cL_law 651 = .ok (.invokevirtual 76, 3) := by decide +kernel
theorem dL_law_654 : decode cL_law 654 = .ok (.if_icmp .eq 718, 3) := by decide +kernel
theorem dL_law_659 : decode cL_law 659 = .ok (.aload_n 1, 1) := by decide +kernel
theorem dL_law_660 : decode cL_law 660 = .ok (.aload_n 0, 1) := by decide +kernel
theorem dL_law_661 : decode cL_law 661 = .ok (.iload 4, 2) := by decide +kernel
theorem dL_law_663 : decode cL_law 663 = .ok (.iconst 1, 1) := by decide +kernel
theorem dL_law_664 : decode cL_law 664 = .ok (.iadd, 1) := by decide +kernel
theorem dL_law_665 : decode cL_law 665 = .ok (.iaload, 1) := by decide +kernel
theorem dL_law_666 : decode cL_law 666 = .ok (.invokevirtual 77, 3) := by decide +kernel
theorem dL_law_669 : decode cL_law 669 = .ok (.aload_n 2, 1) := by decide +kernel
theorem dL_law_670 : decode cL_law 670 = .ok (.aload_n 0, 1) := by decide +kernel
theorem dL_law_671 : decode cL_law 671 = .ok (.iload 4, 2) := by decide +kernel
theorem dL_law_673 : decode cL_law 673 = .ok (.iconst 1, 1) := by decide +kernel
theorem dL_law_674 : decode cL_law 674 = .ok (.iadd, 1) := by decide +kernel
theorem dL_law_675 : decode cL_law 675 = .ok (.iaload, 1) := by decide +kernel
theorem dL_law_676 : decode cL_law 676 = .ok (.invokevirtual 80, 3) := by decide +kernel
theorem dL_law_679 : decode cL_law 679 = .ok (.if_icmp .eq 693, 3) := by decide +kernel
theorem dL_law_684 : decode cL_law 684 = .ok (.aload_n 1, 1) := by decide +kernel
theorem dL_law_685 : decode cL_law 685 = .ok (.aload_n 0, 1) := by decide +kernel
theorem dL_law_686 : decode cL_law 686 = .ok (.iload 4, 2) := by decide +kernel
theorem dL_law_688 : decode cL_law 688 = .ok (.iconst 1, 1) := by decide +kernel
theorem dL_law_689 : decode cL_law 689 = .ok (.iadd, 1) := by decide +kernel
theorem dL_law_690 : decode cL_law 690 = .ok (.iaload, 1) := by decide +kernel
theorem dL_law_691 : decode cL_law 691 = .ok (.invokevirtual 81, 3) := by decide +kernel
theorem dL_law_694 : decode cL_law 694 = .ok (.aload_n 2, 1) := by decide +kernel
theorem dL_law_695 : decode cL_law 695 = .ok (.aload_n 0, 1) := by decide +kernel
theorem dL_law_696 : decode cL_law 696 = .ok (.iload 4, 2) := by decide +kernel
theorem dL_law_698 : decode cL_law 698 = .ok (.iconst 1, 1) := by decide +kernel
theorem dL_law_699 : decode cL_law 699 = .ok (.iadd, 1) := by decide +kernel
theorem dL_law_700 : decode cL_law 700 = .ok (.iaload, 1) := by decide +kernel
theorem dL_law_701 : decode cL_law 701 = .ok (.invokevirtual 84, 3) := by decide +kernel
theorem dL_law_704 : decode cL_law 704 = .ok (.if_icmp .eq 668, 3) := by decide +kernel
theorem dL_law_709 : decode cL_law 709 = .ok (.aload_n 1, 1) := by decide +kernel
theorem dL_law_710 : decode cL_law 710 = .ok (.aload_n 0, 1) := by decide +kernel
theorem dL_law_711 : decode cL_law 711 = .ok (.iload 4, 2) := by decide +kernel
theorem dL_law_713 : decode cL_law 713 = .ok (.iconst 1, 1) := by decide +kernel
theorem dL_law_714 : decode cL_law 714 = .ok (.iadd, 1) := by decide +kernel
theorem dL_law_715 : decode cL_law 715 = .ok (.iaload, 1) := by decide +kernel
theorem dL_law_716 : decode cL_law 716 = .ok (.invokevirtual 85, 3) := by decide +kernel
theorem dL_law_719 : decode cL_law 719 = .ok (.aload_n 2, 1) := by decide +kernel
theorem dL_law_720 : decode cL_law 720 = .ok (.aload_n 0, 1) := by decide +kernel
theorem dL_law_721 : decode cL_law 721 = .ok (.iload 4, 2) := by decide +kernel
theorem dL_law_723 : decode cL_law 723 = .ok (.iconst 1, 1) := by decide +kernel
theorem dL_law_724 : decode cL_law 724 = .ok (.iadd, 1) := by decide +kernel
theorem dL_law_725 : decode cL_law 725 = .ok (.iaload, 1) := by decide +kernel
theorem dL_law_726 : decode cL_law 726 = .ok (.invokevirtual 88, 3) := by decide +kernel
theorem dL_law_729 : decode cL_law 729 = .ok (.if_icmp .eq 643, 3) := by decide +kernel
theorem dL_law_734 : decode cL_law 734 = .ok (.aload_n 1, 1) := by decide +kernel
theorem dL_law_735 : decode cL_law 735 = .ok (.invokevirtual 89, 3) := by decide +kernel
theorem dL_law_738 : decode cL_law 738 = .ok (.aload_n 2, 1) := by decide +kernel
theorem dL_law_739 : decode cL_law 739 = .ok (.invokevirtual 92, 3) := by decide +kernel
theorem dL_law_742 : decode cL_law 742 = .ok (.if_icmp .eq 630, 3) := by decide +kernel
theorem dL_law_747 : decode cL_law 747 = .ok (.aload_n 1, 1) := by decide +kernel
theorem dL_law_748 : decode cL_law 748 = .ok (.aload_n 0, 1) := by decide +kernel
theorem dL_law_749 : decode cL_law 749 = .ok (.iload 4, 2) := by decide +kernel
theorem dL_law_751 : decode cL_law 751 = .ok (.iconst 1, 1) := by decide +kernel
theorem dL_law_752 : decode cL_law 752 = .ok (.iadd, 1) := by decide +kernel
theorem dL_law_753 : decode cL_law 753 = .ok (.iaload, 1) := by decide +kernel
theorem dL_law_754 : decode cL_law 754 = .ok (.invokevirtual 93, 3) := by decide +kernel
theorem dL_law_757 : decode cL_law 757 = .ok (.aload_n 2, 1) := by decide +kernel
theorem dL_law_758 : decode cL_law 758 = .ok (.aload_n 0, 1) := by decide +kernel
theorem dL_law_759 : decode cL_law 759 = .ok (.iload 4, 2) := by decide +kernel
theorem dL_law_761 : decode cL_law 761 = .ok (.iconst 1, 1) := by decide +kernel
theorem dL_law_762 : decode cL_law 762 = .ok (.iadd, 1) := by decide +kernel
theorem dL_law_763 : decode cL_law 763 = .ok (.iaload, 1) := by decide +kernel
theorem dL_law_764 : decode cL_law 764 = .ok (.invokevirtual 96, 3) := by decide +kernel
theorem dL_law_767 : decode cL_law 767 = .ok (.if_icmp .eq 605, 3) := by decide +kernel
theorem dL_law_772 : decode cL_law 772 = .ok (.aload_n 1, 1) := by decide +kernel
theorem dL_law_773 : decode cL_law 773 = .ok (.aload_n 0, 1) := by decide +kernel
theorem dL_law_774 : decode cL_law 774 = .ok (.iload 4, 2) := by decide +kernel
theorem dL_law_776 : decode cL_law 776 = .ok (.iconst 1, 1) := by decide +kernel
theorem dL_law_777 : decode cL_law 777 = .ok (.iadd, 1) := by decide +kernel
theorem dL_law_778 : decode cL_law 778 = .ok (.iaload, 1) := by decide +kernel
theorem dL_law_779 : decode cL_law 779 = .ok (.aload_n 0, 1) := by decide +kernel
theorem dL_law_780 : decode cL_law 780 = .ok (.iload 4, 2) := by decide +kernel
theorem dL_law_782 : decode cL_law 782 = .ok (.iconst 2, 1) := by decide +kernel
theorem dL_law_783 : decode cL_law 783 = .ok (.iadd, 1) := by decide +kernel
theorem dL_law_784 : decode cL_law 784 = .ok (.iaload, 1) := by decide +kernel
theorem dL_law_785 : decode cL_law 785 = .ok (.invokevirtual 97, 3) := by decide +kernel
theorem dL_law_788 : decode cL_law 788 = .ok (.aload_n 2, 1) := by decide +kernel
theorem dL_law_789 : decode cL_law 789 = .ok (.aload_n 0, 1) := by decide +kernel
theorem dL_law_790 : decode cL_law 790 = .ok (.iload 4, 2) := by decide +kernel
theorem dL_law_792 : decode cL_law 792 = .ok (.iconst 1, 1) := by decide +kernel
theorem dL_law_793 : decode cL_law 793 = .ok (.iadd, 1) := by decide +kernel
theorem dL_law_794 : decode cL_law 794 = .ok (.iaload, 1) := by decide +kernel
theorem dL_law_795 : decode cL_law 795 = .ok (.aload_n 0, 1) := by decide +kernel
theorem dL_law_796 : decode cL_law 796 = .ok (.iload 4, 2) := by decide +kernel
theorem dL_law_798 : decode cL_law 798 = .ok (.iconst 2, 1) := by decide +kernel
theorem dL_law_799 : decode cL_law 799 = .ok (.iadd, 1) := by decide +kernel
theorem dL_law_800 : decode cL_law 800 = .ok (.iaload, 1) := by decide +kernel
theorem dL_law_801 : decode cL_law 801 = .ok (.invokevirtual 100, 3) := by decide +kernel
theorem dL_law_804 : decode cL_law 804 = .ok (.if_icmp .eq 568, 3) := by decide +kernel
theorem dL_law_809 : decode cL_law 809 = .ok (.aload_n 1, 1) := by decide +kernel
theorem dL_law_810 : decode cL_law 810 = .ok (.invokevirtual 101, 3) := by decide +kernel
theorem dL_law_813 : decode cL_law 813 = .ok (.aload_n 2, 1) := by decide +kernel
theorem dL_law_814 : decode cL_law 814 = .ok (.invokevirtual 104, 3) := by decide +kernel
theorem dL_law_817 : decode cL_law 817 = .ok (.if_icmp .eq 555, 3) := by decide +kernel
theorem dL_law_822 : decode cL_law 822 = .ok (.aload_n 1, 1) := by decide +kernel
theorem dL_law_823 : decode cL_law 823 = .ok (.aload_n 0, 1) := by decide +kernel
theorem dL_law_824 : decode cL_law 824 = .ok (.iload 4, 2) := by decide +kernel
theorem dL_law_826 : decode cL_law 826 = .ok (.iconst 1, 1) := by decide +kernel
theorem dL_law_827 : decode cL_law 827 = .ok (.iadd, 1) := by decide +kernel
theorem dL_law_828 : decode cL_law 828 = .ok (.iaload, 1) := by decide +kernel
theorem dL_law_829 : decode cL_law 829 = .ok (.invokevirtual 105, 3) := by decide +kernel
theorem dL_law_832 : decode cL_law 832 = .ok (.aload_n 2, 1) := by decide +kernel
theorem dL_law_833 : decode cL_law 833 = .ok (.aload_n 0, 1) := by decide +kernel
theorem dL_law_834 : decode cL_law 834 = .ok (.iload 4, 2) := by decide +kernel
theorem dL_law_836 : decode cL_law 836 = .ok (.iconst 1, 1) := by decide +kernel
theorem dL_law_837 : decode cL_law 837 = .ok (.iadd, 1) := by decide +kernel
theorem dL_law_838 : decode cL_law 838 = .ok (.iaload, 1) := by decide +kernel
theorem dL_law_839 : decode cL_law 839 = .ok (.invokevirtual 108, 3) := by decide +kernel
theorem dL_law_842 : decode cL_law 842 = .ok (.if_icmp .eq 530, 3) := by decide +kernel
theorem dL_law_847 : decode cL_law 847 = .ok (.aload_n 1, 1) := by decide +kernel
theorem dL_law_848 : decode cL_law 848 = .ok (.invokevirtual 109, 3) := by decide +kernel
theorem dL_law_851 : decode cL_law 851 = .ok (.aload_n 2, 1) := by decide +kernel
theorem dL_law_852 : decode cL_law 852 = .ok (.invokevirtual 112, 3) := by decide +kernel
theorem dL_law_855 : decode cL_law 855 = .ok (.if_icmp .eq 517, 3) := by decide +kernel
theorem dL_law_860 : decode cL_law 860 = .ok (.aload_n 1, 1) := by decide +kernel
theorem dL_law_861 : decode cL_law 861 = .ok (.invokevirtual 113, 3) := by decide +kernel
theorem dL_law_864 : decode cL_law 864 = .ok (.aload_n 2, 1) := by decide +kernel
theorem dL_law_865 : decode cL_law 865 = .ok (.invokevirtual 116, 3) := by decide +kernel
theorem dL_law_868 : decode cL_law 868 = .ok (.if_icmp .eq 504, 3) := by decide +kernel
theorem dL_law_873 : decode cL_law 873 = .ok (.aload_n 1, 1) := by decide +kernel
theorem dL_law_874 : decode cL_law 874 = .ok (.invokevirtual 117, 3) := by decide +kernel
theorem dL_law_877 : decode cL_law 877 = .ok (.aload_n 2, 1) := by decide +kernel
theorem dL_law_878 : decode cL_law 878 = .ok (.invokevirtual 120, 3) := by decide +kernel
theorem dL_law_881 : decode cL_law 881 = .ok (.if_icmp .eq 491, 3) := by decide +kernel
theorem dL_law_886 : decode cL_law 886 = .ok (.aload_n 1, 1) := by decide +kernel
theorem dL_law_887 : decode cL_law 887 = .ok (.aload_n 0, 1) := by decide +kernel
theorem dL_law_888 : decode cL_law 888 = .ok (.iload 4, 2) := by decide +kernel
theorem dL_law_890 : decode cL_law 890 = .ok (.iconst 1, 1) := by decide +kernel
theorem dL_law_891 : decode cL_law 891 = .ok (.iadd, 1) := by decide +kernel
theorem dL_law_892 : decode cL_law 892 = .ok (.iaload, 1) := by decide +kernel
theorem dL_law_893 : decode cL_law 893 = .ok (.aload_n 0, 1) := by decide +kernel
theorem dL_law_894 : decode cL_law 894 = .ok (.iload 4, 2) := by decide +kernel
theorem dL_law_896 : decode cL_law 896 = .ok (.iconst 2, 1) := by decide +kernel
theorem dL_law_897 : decode cL_law 897 = .ok (.iadd, 1) := by decide +kernel
theorem dL_law_898 : decode cL_law 898 = .ok (.iaload, 1) := by decide +kernel
theorem dL_law_899 : decode cL_law 899 = .ok (.aload_n 0, 1) := by decide +kernel
theorem dL_law_900 : decode cL_law 900 = .ok (.iload 4, 2) := by decide +kernel
theorem dL_law_902 : decode cL_law 902 = .ok (.iconst 3, 1) := by decide +kernel
theorem dL_law_903 : decode cL_law 903 = .ok (.iadd, 1) := by decide +kernel
theorem dL_law_904 : decode cL_law 904 = .ok (.iaload, 1) := by decide +kernel
theorem dL_law_905 : decode cL_law 905 = .ok (.invokevirtual 121, 3) := by decide +kernel
theorem dL_law_908 : decode cL_law 908 = .ok (.aload_n 2, 1) := by decide +kernel
theorem dL_law_909 : decode cL_law 909 = .ok (.aload_n 0, 1) := by decide +kernel
theorem dL_law_910 : decode cL_law 910 = .ok (.iload 4, 2) := by decide +kernel
theorem dL_law_912 : decode cL_law 912 = .ok (.iconst 1, 1) := by decide +kernel
theorem dL_law_913 : decode cL_law 913 = .ok (.iadd, 1) := by decide +kernel
theorem dL_law_914 : decode cL_law 914 = .ok (.iaload, 1) := by decide +kernel
theorem dL_law_915 : decode cL_law 915 = .ok (.aload_n 0, 1) := by decide +kernel
theorem dL_law_916 : decode cL_law 916 = .ok (.iload 4, 2) := by decide +kernel
theorem dL_law_918 : decode cL_law 918 = .ok (.iconst 2, 1) := by decide +kernel
theorem dL_law_919 : decode cL_law 919 = .ok (.iadd, 1) := by decide +kernel
theorem dL_law_920 : decode cL_law 920 = .ok (.iaload, 1) := by decide +kernel
theorem dL_law_921 : decode cL_law 921 = .ok (.aload_n 0, 1) := by decide +kernel
theorem dL_law_922 : decode cL_law 922 = .ok (.iload 4, 2) := by decide +kernel
theorem dL_law_924 : decode cL_law 924 = .ok (.iconst 3, 1) := by decide +kernel
theorem dL_law_925 : decode cL_law 925 = .ok (.iadd, 1) := by decide +kernel
theorem dL_law_926 : decode cL_law 926 = .ok (.iaload, 1) := by decide +kernel
theorem dL_law_927 : decode cL_law 927 = .ok (.invokevirtual 124, 3) := by decide +kernel
theorem dL_law_930 : decode cL_law 930 = .ok (.if_icmp .eq 442, 3) := by decide +kernel
theorem dL_law_935 : decode cL_law 935 = .ok (.aload_n 1, 1) := by decide +kernel
theorem dL_law_936 : decode cL_law 936 = .ok (.aload_n 0, 1) := by decide +kernel
theorem dL_law_937 : decode cL_law 937 = .ok (.iload 4, 2) := by decide +kernel
theorem dL_law_939 : decode cL_law 939 = .ok (.iconst 1, 1) := by decide +kernel
theorem dL_law_940 : decode cL_law 940 = .ok (.iadd, 1) := by decide +kernel
theorem dL_law_941 : decode cL_law 941 = .ok (.iaload, 1) := by decide +kernel
theorem dL_law_942 : decode cL_law 942 = .ok (.invokevirtual 125, 3) := by decide +kernel
theorem dL_law_945 : decode cL_law 945 = .ok (.aload_n 2, 1) := by decide +kernel
theorem dL_law_946 : decode cL_law 946 = .ok (.aload_n 0, 1) := by decide +kernel
theorem dL_law_947 : decode cL_law 947 = .ok (.iload 4, 2) := by decide +kernel
theorem dL_law_949 : decode cL_law 949 = .ok (.iconst 1, 1) := by decide +kernel
theorem dL_law_950 : decode cL_law 950 = .ok (.iadd, 1) := by decide +kernel
theorem dL_law_951 : decode cL_law 951 = .ok (.iaload, 1) := by decide +kernel
theorem dL_law_952 : decode cL_law 952 = .ok (.invokevirtual 128, 3) := by decide +kernel
theorem dL_law_955 : decode cL_law 955 = .ok (.if_icmp .eq 417, 3) := by decide +kernel
theorem dL_law_960 : decode cL_law 960 = .ok (.aload_n 1, 1) := by decide +kernel
theorem dL_law_961 : decode cL_law 961 = .ok (.invokevirtual 129, 3) := by decide +kernel
theorem dL_law_964 : decode cL_law 964 = .ok (.aload_n 2, 1) := by decide +kernel
theorem dL_law_965 : decode cL_law 965 = .ok (.invokevirtual 132, 3) := by decide +kernel
theorem dL_law_968 : decode cL_law 968 = .ok (.if_icmp .eq 404, 3) := by decide +kernel
theorem dL_law_973 : decode cL_law 973 = .ok (.aload_n 1, 1) := by decide +kernel
theorem dL_law_974 : decode cL_law 974 = .ok (.aload_n 0, 1) := by decide +kernel
theorem dL_law_975 : decode cL_law 975 = .ok (.iload 4, 2) := by decide +kernel
theorem dL_law_977 : decode cL_law 977 = .ok (.iconst 1, 1) := by decide +kernel
theorem dL_law_978 : decode cL_law 978 = .ok (.iadd, 1) := by decide +kernel
theorem dL_law_979 : decode cL_law 979 = .ok (.iaload, 1) := by decide +kernel
theorem dL_law_980 : decode cL_law 980 = .ok (.invokevirtual 133, 3) := by decide +kernel
theorem dL_law_983 : decode cL_law 983 = .ok (.aload_n 2, 1) := by decide +kernel
theorem dL_law_984 : decode cL_law 984 = .ok (.aload_n 0, 1) := by decide +kernel
theorem dL_law_985 : decode cL_law 985 = .ok (.iload 4, 2) := by decide +kernel
theorem dL_law_987 : decode cL_law 987 = .ok (.iconst 1, 1) := by decide +kernel
theorem dL_law_988 : decode cL_law 988 = .ok (.iadd, 1) := by decide +kernel
theorem dL_law_989 : decode cL_law 989 = .ok (.iaload, 1) := by decide +kernel
theorem dL_law_990 : decode cL_law 990 = .ok (.invokevirtual 136, 3) := by decide +kernel
theorem dL_law_993 : decode cL_law 993 = .ok (.if_icmp .eq 379, 3) := by decide +kernel
theorem dL_law_998 : decode cL_law 998 = .ok (.aload_n 1, 1) := by decide +kernel
theorem dL_law_999 : decode cL_law 999 = .ok (.aload_n 0, 1) := by decide +kernel
theorem dL_law_1000 : decode cL_law 1000 = .ok (.iload 4, 2) := by decide +kernel
theorem dL_law_1002 : decode cL_law 1002 = .ok (.iconst 1, 1) := by decide +kernel
theorem dL_law_1003 : decode cL_law 1003 = .ok (.iadd, 1) := by decide +kernel
theorem dL_law_1004 : decode cL_law 1004 = .ok (.iaload, 1) := by decide +kernel
theorem dL_law_1005 : decode cL_law 1005 = .ok (.invokevirtual 137, 3) := by decide +kernel
theorem dL_law_1008 : decode cL_law 1008 = .ok (.aload_n 2, 1) := by decide +kernel
theorem dL_law_1009 : decode cL_law 1009 = .ok (.aload_n 0, 1) := by decide +kernel
theorem dL_law_1010 : decode cL_law 1010 = .ok (.iload 4, 2) := by decide +kernel
theorem dL_law_1012 : decode cL_law 1012 = .ok (.iconst 1, 1) := by decide +kernel
theorem dL_law_1013 : decode cL_law 1013 = .ok (.iadd, 1) := by decide +kernel
theorem dL_law_1014 : decode cL_law 1014 = .ok (.iaload, 1) := by decide +kernel
theorem dL_law_1015 : decode cL_law 1015 = .ok (.invokevirtual 140, 3) := by decide +kernel
theorem dL_law_1018 : decode cL_law 1018 = .ok (.if_icmp .eq 354, 3) := by decide +kernel
theorem dL_law_1023 : decode cL_law 1023 = .ok (.aload_n 1, 1) := by decide +kernel
theorem dL_law_1024 : decode cL_law 1024 = .ok (.aload_n 0, 1) := by decide +kernel
theorem dL_law_1025 : decode cL_law 1025 = .ok (.iload 4, 2) := by decide +kernel
theorem dL_law_1027 : decode cL_law 1027 = .ok (.iconst 1, 1) := by decide +kernel
theorem dL_law_1028 : decode cL_law 1028 = .ok (.iadd, 1) := by decide +kernel
theorem dL_law_1029 : decode cL_law 1029 = .ok (.iaload, 1) := by decide +kernel
theorem dL_law_1030 : decode cL_law 1030 = .ok (.aload_n 0, 1) := by decide +kernel
theorem dL_law_1031 : decode cL_law 1031 = .ok (.iload 4, 2) := by decide +kernel
theorem dL_law_1033 : decode cL_law 1033 = .ok (.iconst 2, 1) := by decide +kernel
theorem dL_law_1034 : decode cL_law 1034 = .ok (.iadd, 1) := by decide +kernel
theorem dL_law_1035 : decode cL_law 1035 = .ok (.iaload, 1) := by decide +kernel
theorem dL_law_1036 : decode cL_law 1036 = .ok (.invokevirtual 141, 3) := by decide +kernel
theorem dL_law_1039 : decode cL_law 1039 = .ok (.aload_n 2, 1) := by decide +kernel
theorem dL_law_1040 : decode cL_law 1040 = .ok (.aload_n 0, 1) := by decide +kernel
theorem dL_law_1041 : decode cL_law 1041 = .ok (.iload 4, 2) := by decide +kernel
theorem dL_law_1043 : decode cL_law 1043 = .ok (.iconst 1, 1) := by decide +kernel
theorem dL_law_1044 : decode cL_law 1044 = .ok (.iadd, 1) := by decide +kernel
theorem dL_law_1045 : decode cL_law 1045 = .ok (.iaload, 1) := by decide +kernel
theorem dL_law_1046 : decode cL_law 1046 = .ok (.aload_n 0, 1) := by decide +kernel
theorem dL_law_1047 : decode cL_law 1047 = .ok (.iload 4, 2) := by decide +kernel
theorem dL_law_1049 : decode cL_law 1049 = .ok (.iconst 2, 1) := by decide +kernel
theorem dL_law_1050 : decode cL_law 1050 = .ok (.iadd, 1) := by decide +kernel
theorem dL_law_1051 : decode cL_law 1051 = .ok (.iaload, 1) := by decide +kernel
theorem dL_law_1052 : decode cL_law 1052 = .ok (.invokevirtual 144, 3) := by decide +kernel
theorem dL_law_1055 : decode cL_law 1055 = .ok (.if_icmp .eq 317, 3) := by decide +kernel
theorem dL_law_1060 : decode cL_law 1060 = .ok (.aload_n 1, 1) := by decide +kernel
theorem dL_law_1061 : decode cL_law 1061 = .ok (.invokevirtual 145, 3) := by decide +kernel
theorem dL_law_1064 : decode cL_law 1064 = .ok (.aload_n 2, 1) := by decide +kernel
theorem dL_law_1065 : decode cL_law 1065 = .ok (.invokevirtual 148, 3) := by decide +kernel
theorem dL_law_1068 : decode cL_law 1068 = .ok (.if_icmp .eq 304, 3) := by decide +kernel
theorem dL_law_1073 : decode cL_law 1073 = .ok (.aload_n 1, 1) := by decide +kernel
theorem dL_law_1074 : decode cL_law 1074 = .ok (.aload_n 0, 1) := by decide +kernel
theorem dL_law_1075 : decode cL_law 1075 = .ok (.iload 4, 2) := by decide +kernel
theorem dL_law_1077 : decode cL_law 1077 = .ok (.iconst 1, 1) := by decide +kernel
theorem dL_law_1078 : decode cL_law 1078 = .ok (.iadd, 1) := by decide +kernel
theorem dL_law_1079 : decode cL_law 1079 = .ok (.iaload, 1) := by decide +kernel
theorem dL_law_1080 : decode cL_law 1080 = .ok (.invokevirtual 149, 3) := by decide +kernel
theorem dL_law_1083 : decode cL_law 1083 = .ok (.aload_n 2, 1) := by decide +kernel
theorem dL_law_1084 : decode cL_law 1084 = .ok (.aload_n 0, 1) := by decide +kernel
theorem dL_law_1085 : decode cL_law 1085 = .ok (.iload 4, 2) := by decide +kernel
theorem dL_law_1087 : decode cL_law 1087 = .ok (.iconst 1, 1) := by decide +kernel
theorem dL_law_1088 : decode cL_law 1088 = .ok (.iadd, 1) := by decide +kernel
theorem dL_law_1089 : decode cL_law 1089 = .ok (.iaload, 1) := by decide +kernel
theorem dL_law_1090 : decode cL_law 1090 = .ok (.invokevirtual 152, 3) := by decide +kernel
theorem dL_law_1093 : decode cL_law 1093 = .ok (.if_icmp .eq 279, 3) := by decide +kernel
theorem dL_law_1098 : decode cL_law 1098 = .ok (.aload_n 1, 1) := by decide +kernel
theorem dL_law_1099 : decode cL_law 1099 = .ok (.aload_n 0, 1) := by decide +kernel
theorem dL_law_1100 : decode cL_law 1100 = .ok (.iload 4, 2) := by decide +kernel
theorem dL_law_1102 : decode cL_law 1102 = .ok (.iconst 1, 1) := by decide +kernel
theorem dL_law_1103 : decode cL_law 1103 = .ok (.iadd, 1) := by decide +kernel
theorem dL_law_1104 : decode cL_law 1104 = .ok (.iaload, 1) := by decide +kernel
theorem dL_law_1105 : decode cL_law 1105 = .ok (.invokevirtual 153, 3) := by decide +kernel
theorem dL_law_1108 : decode cL_law 1108 = .ok (.aload_n 2, 1) := by decide +kernel
theorem dL_law_1109 : decode cL_law 1109 = .ok (.aload_n 0, 1) := by decide +kernel
theorem dL_law_1110 : decode cL_law 1110 = .ok (.iload 4, 2) := by decide +kernel
theorem dL_law_1112 : decode cL_law 1112 = .ok (.iconst 1, 1) := by decide +kernel
theorem dL_law_1113 : decode cL_law 1113 = .ok (.iadd, 1) := by decide +kernel
theorem dL_law_1114 : decode cL_law 1114 = .ok (.iaload, 1) := by decide +kernel
theorem dL_law_1115 : decode cL_law 1115 = .ok (.invokevirtual 156, 3) := by decide +kernel
theorem dL_law_1118 : decode cL_law 1118 = .ok (.if_icmp .eq 254, 3) := by decide +kernel
theorem dL_law_1123 : decode cL_law 1123 = .ok (.aload_n 1, 1) := by decide +kernel
theorem dL_law_1124 : decode cL_law 1124 = .ok (.aload_n 0, 1) := by decide +kernel
theorem dL_law_1125 : decode cL_law 1125 = .ok (.iload 4, 2) := by decide +kernel
theorem dL_law_1127 : decode cL_law 1127 = .ok (.iconst 1, 1) := by decide +kernel
theorem dL_law_1128 : decode cL_law 1128 = .ok (.iadd, 1) := by decide +kernel
theorem dL_law_1129 : decode cL_law 1129 = .ok (.iaload, 1) := by decide +kernel
theorem dL_law_1130 : decode cL_law 1130 = .ok (.aload_n 0, 1) := by decide +kernel
theorem dL_law_1131 : decode cL_law 1131 = .ok (.iload 4, 2) := by decide +kernel
theorem dL_law_1133 : decode cL_law 1133 = .ok (.iconst 2, 1) := by decide +kernel
theorem dL_law_1134 : decode cL_law 1134 = .ok (.iadd, 1) := by decide +kernel
theorem dL_law_1135 : decode cL_law 1135 = .ok (.iaload, 1) := by decide +kernel
theorem dL_law_1136 : decode cL_law 1136 = .ok (.invokevirtual 157, 3) := by decide +kernel
theorem dL_law_1139 : decode cL_law 1139 = .ok (.aload_n 2, 1) := by decide +kernel
theorem dL_law_1140 : decode cL_law 1140 = .ok (.aload_n 0, 1) := by decide +kernel
theorem dL_law_1141 : decode cL_law 1141 = .ok (.iload 4, 2) := by decide +kernel
theorem dL_law_1143 : decode cL_law 1143 = .ok (.iconst 1, 1) := by decide +kernel
theorem dL_law_1144 : decode cL_law 1144 = .ok (.iadd, 1) := by decide +kernel
theorem dL_law_1145 : decode cL_law 1145 = .ok (.iaload, 1) := by decide +kernel
theorem dL_law_1146 : decode cL_law 1146 = .ok (.aload_n 0, 1) := by decide +kernel
theorem dL_law_1147 : decode cL_law 1147 = .ok (.iload 4, 2) := by decide +kernel
theorem dL_law_1149 : decode cL_law 1149 = .ok (.iconst 2, 1) := by decide +kernel
theorem dL_law_1150 : decode cL_law 1150 = .ok (.iadd, 1) := by decide +kernel
theorem dL_law_1151 : decode cL_law 1151 = .ok (.iaload, 1) := by decide +kernel
theorem dL_law_1152 : decode cL_law 1152 = .ok (.invokevirtual 160, 3) := by decide +kernel
theorem dL_law_1155 : decode cL_law 1155 = .ok (.if_icmp .eq 217, 3) := by decide +kernel
theorem dL_law_1160 : decode cL_law 1160 = .ok (.aload_n 1, 1) := by decide +kernel
theorem dL_law_1161 : decode cL_law 1161 = .ok (.aload_n 0, 1) := by decide +kernel
theorem dL_law_1162 : decode cL_law 1162 = .ok (.iload 4, 2) := by decide +kernel
theorem dL_law_1164 : decode cL_law 1164 = .ok (.iconst 1, 1) := by decide +kernel
theorem dL_law_1165 : decode cL_law 1165 = .ok (.iadd, 1) := by decide +kernel
theorem dL_law_1166 : decode cL_law 1166 = .ok (.iaload, 1) := by decide +kernel
theorem dL_law_1167 : decode cL_law 1167 = .ok (.aload_n 0, 1) := by decide +kernel
theorem dL_law_1168 : decode cL_law 1168 = .ok (.iload 4, 2) := by decide +kernel
theorem dL_law_1170 : decode cL_law 1170 = .ok (.iconst 2, 1) := by decide +kernel
theorem dL_law_1171 : decode cL_law 1171 = .ok (.iadd, 1) := by decide +kernel
theorem dL_law_1172 : decode cL_law 1172 = .ok (.iaload, 1) := by decide +kernel
theorem dL_law_1173 : decode cL_law 1173 = .ok (.aload_n 0, 1) := by decide +kernel
theorem dL_law_1174 : decode cL_law 1174 = .ok (.iload 4, 2) := by decide +kernel
theorem dL_law_1176 : decode cL_law 1176 = .ok (.iconst 3, 1) := by decide +kernel
theorem dL_law_1177 : decode cL_law 1177 = .ok (.iadd, 1) := by decide +kernel
theorem dL_law_1178 : decode cL_law 1178 = .ok (.iaload, 1) := by decide +kernel
theorem dL_law_1179 : decode cL_law 1179 = .ok (.invokevirtual 161, 3) := by decide +kernel
theorem dL_law_1182 : decode cL_law 1182 = .ok (.aload_n 2, 1) := by decide +kernel
theorem dL_law_1183 : decode cL_law 1183 = .ok (.aload_n 0, 1) := by decide +kernel
theorem dL_law_1184 : decode cL_law 1184 = .ok (.iload 4, 2) := by decide +kernel
theorem dL_law_1186 : decode cL_law 1186 = .ok (.iconst 1, 1) := by decide +kernel
theorem dL_law_1187 : decode cL_law 1187 = .ok (.iadd, 1) := by decide +kernel
theorem dL_law_1188 : decode cL_law 1188 = .ok (.iaload, 1) := by decide +kernel
theorem dL_law_1189 : decode cL_law 1189 = .ok (.aload_n 0, 1) := by decide +kernel
theorem dL_law_1190 : decode cL_law 1190 = .ok (.iload 4, 2) := by decide +kernel
theorem dL_law_1192 : decode cL_law 1192 = .ok (.iconst 2, 1) := by decide +kernel
theorem dL_law_1193 : decode cL_law 1193 = .ok (.iadd, 1) := by decide +kernel
theorem dL_law_1194 : decode cL_law 1194 = .ok (.iaload, 1) := by decide +kernel
theorem dL_law_1195 : decode cL_law 1195 = .ok (.aload_n 0, 1) := by decide +kernel
theorem dL_law_1196 : decode cL_law 1196 = .ok (.iload 4, 2) := by decide +kernel
theorem dL_law_1198 : decode cL_law 1198 = .ok (.iconst 3, 1) := by decide +kernel
theorem dL_law_1199 : decode cL_law 1199 = .ok (.iadd, 1) := by decide +kernel
theorem dL_law_1200 : decode cL_law 1200 = .ok (.iaload, 1) := by decide +kernel
theorem dL_law_1201 : decode cL_law 1201 = .ok (.invokevirtual 164, 3) := by decide +kernel
theorem dL_law_1204 : decode cL_law 1204 = .ok (.if_icmp .eq 168, 3) := by decide +kernel
theorem dL_law_1209 : decode cL_law 1209 = .ok (.aload_n 1, 1) := by decide +kernel
theorem dL_law_1210 : decode cL_law 1210 = .ok (.aload_n 0, 1) := by decide +kernel
theorem dL_law_1211 : decode cL_law 1211 = .ok (.iload 4, 2) := by decide +kernel
theorem dL_law_1213 : decode cL_law 1213 = .ok (.iconst 1, 1) := by decide +kernel
theorem dL_law_1214 : decode cL_law 1214 = .ok (.iadd, 1) := by decide +kernel
theorem dL_law_1215 : decode cL_law 1215 = .ok (.iaload, 1) := by decide +kernel
theorem dL_law_1216 : decode cL_law 1216 = .ok (.invokevirtual 165, 3) := by decide +kernel
theorem dL_law_1219 : decode cL_law 1219 = .ok (.aload_n 2, 1) := by decide +kernel
theorem dL_law_1220 : decode cL_law 1220 = .ok (.aload_n 0, 1) := by decide +kernel
theorem dL_law_1221 : decode cL_law 1221 = .ok (.iload 4, 2) := by decide +kernel
theorem dL_law_1223 : decode cL_law 1223 = .ok (.iconst 1, 1) := by decide +kernel
theorem dL_law_1224 : decode cL_law 1224 = .ok (.iadd, 1) := by decide +kernel
theorem dL_law_1225 : decode cL_law 1225 = .ok (.iaload, 1) := by decide +kernel
theorem dL_law_1226 : decode cL_law 1226 = .ok (.invokevirtual 168, 3) := by decide +kernel
theorem dL_law_1229 : decode cL_law 1229 = .ok (.if_icmp .eq 143, 3) := by decide +kernel
theorem dL_law_1234 : decode cL_law 1234 = .ok (.aload_n 1, 1) := by decide +kernel
theorem dL_law_1235 : decode cL_law 1235 = .ok (.aload_n 0, 1) := by decide +kernel
theorem dL_law_1236 : decode cL_law 1236 = .ok (.iload 4, 2) := by decide +kernel
theorem dL_law_1238 : decode cL_law 1238 = .ok (.iconst 1, 1) := by decide +kernel
theorem dL_law_1239 : decode cL_law 1239 = .ok (.iadd, 1) := by decide +kernel
theorem dL_law_1240 : decode cL_law 1240 = .ok (.iaload, 1) := by decide +kernel
theorem dL_law_1241 : decode cL_law 1241 = .ok (.invokevirtual 169, 3) := by decide +kernel
theorem dL_law_1244 : decode cL_law 1244 = .ok (.aload_n 2, 1) := by decide +kernel
theorem dL_law_1245 : decode cL_law 1245 = .ok (.aload_n 0, 1) := by decide +kernel
theorem dL_law_1246 : decode cL_law 1246 = .ok (.iload 4, 2) := by decide +kernel
theorem dL_law_1248 : decode cL_law 1248 = .ok (.iconst 1, 1) := by decide +kernel
theorem dL_law_1249 : decode cL_law 1249 = .ok (.iadd, 1) := by decide +kernel
theorem dL_law_1250 : decode cL_law 1250 = .ok (.iaload, 1) := by decide +kernel
theorem dL_law_1251 : decode cL_law 1251 = .ok (.invokevirtual 172, 3) := by decide +kernel
theorem dL_law_1254 : decode cL_law 1254 = .ok (.if_icmp .eq 118, 3) := by decide +kernel
theorem dL_law_1259 : decode cL_law 1259 = .ok (.aload_n 1, 1) := by decide +kernel
theorem dL_law_1260 : decode cL_law 1260 = .ok (.invokevirtual 173, 3) := by decide +kernel
theorem dL_law_1263 : decode cL_law 1263 = .ok (.aload_n 2, 1) := by decide +kernel
theorem dL_law_1264 : decode cL_law 1264 = .ok (.invokevirtual 176, 3) := by decide +kernel
theorem dL_law_1267 : decode cL_law 1267 = .ok (.if_icmp .eq 105, 3) := by decide +kernel
theorem dL_law_1272 : decode cL_law 1272 = .ok (.aload_n 1, 1) := by decide +kernel
theorem dL_law_1273 : decode cL_law 1273 = .ok (.aload_n 0, 1) := by decide +kernel
theorem dL_law_1274 : decode cL_law 1274 = .ok (.iload 4, 2) := by decide +kernel
theorem dL_law_1276 : decode cL_law 1276 = .ok (.iconst 1, 1) := by decide +kernel
theorem dL_law_1277 : decode cL_law 1277 = .ok (.iadd, 1) := by decide +kernel
theorem dL_law_1278 : decode cL_law 1278 = .ok (.iaload, 1) := by decide +kernel
theorem dL_law_1279 : decode cL_law 1279 = .ok (.invokevirtual 177, 3) := by decide +kernel
theorem dL_law_1282 : decode cL_law 1282 = .ok (.aload_n 2, 1) := by decide +kernel
theorem dL_law_1283 : decode cL_law 1283 = .ok (.aload_n 0, 1) := by decide +kernel
theorem dL_law_1284 : decode cL_law 1284 = .ok (.iload 4, 2) := by decide +kernel
theorem dL_law_1286 : decode cL_law 1286 = .ok (.iconst 1, 1) := by decide +kernel
theorem dL_law_1287 : decode cL_law 1287 = .ok (.iadd, 1) := by decide +kernel
theorem dL_law_1288 : decode cL_law 1288 = .ok (.iaload, 1) := by decide +kernel
theorem dL_law_1289 : decode cL_law 1289 = .ok (.invokevirtual 180, 3) := by decide +kernel
theorem dL_law_1292 : decode cL_law 1292 = .ok (.if_icmp .eq 80, 3) := by decide +kernel
theorem dL_law_1297 : decode cL_law 1297 = .ok (.aload_n 1, 1) := by decide +kernel
theorem dL_law_1298 : decode cL_law 1298 = .ok (.aload_n 0, 1) := by decide +kernel
theorem dL_law_1299 : decode cL_law 1299 = .ok (.iload 4, 2) := by decide +kernel
theorem dL_law_1301 : decode cL_law 1301 = .ok (.iconst 1, 1) := by decide +kernel
theorem dL_law_1302 : decode cL_law 1302 = .ok (.iadd, 1) := by decide +kernel
theorem dL_law_1303 : decode cL_law 1303 = .ok (.iaload, 1) := by decide +kernel
theorem dL_law_1304 : decode cL_law 1304 = .ok (.invokevirtual 181, 3) := by decide +kernel
theorem dL_law_1307 : decode cL_law 1307 = .ok (.aload_n 2, 1) := by decide +kernel
theorem dL_law_1308 : decode cL_law 1308 = .ok (.aload_n 0, 1) := by decide +kernel
theorem dL_law_1309 : decode cL_law 1309 = .ok (.iload 4, 2) := by decide +kernel
theorem dL_law_1311 : decode cL_law 1311 = .ok (.iconst 1, 1) := by decide +kernel
theorem dL_law_1312 : decode cL_law 1312 = .ok (.iadd, 1) := by decide +kernel
theorem dL_law_1313 : decode cL_law 1313 = .ok (.iaload, 1) := by decide +kernel
theorem dL_law_1314 : decode cL_law 1314 = .ok (.invokevirtual 184, 3) := by decide +kernel
theorem dL_law_1317 : decode cL_law 1317 = .ok (.if_icmp .eq 55, 3) := by decide +kernel
theorem dL_law_1322 : decode cL_law 1322 = .ok (.aload_n 1, 1) := by decide +kernel
theorem dL_law_1323 : decode cL_law 1323 = .ok (.aload_n 0, 1) := by decide +kernel
theorem dL_law_1324 : decode cL_law 1324 = .ok (.iload 4, 2) := by decide +kernel
theorem dL_law_1326 : decode cL_law 1326 = .ok (.iconst 1, 1) := by decide +kernel
theorem dL_law_1327 : decode cL_law 1327 = .ok (.iadd, 1) := by decide +kernel
theorem dL_law_1328 : decode cL_law 1328 = .ok (.iaload, 1) := by decide +kernel
theorem dL_law_1329 : decode cL_law 1329 = .ok (.invokevirtual 185, 3) := by decide +kernel
theorem dL_law_1332 : decode cL_law 1332 = .ok (.aload_n 2, 1) := by decide +kernel
theorem dL_law_1333 : decode cL_law 1333 = .ok (.aload_n 0, 1) := by decide +kernel
theorem dL_law_1334 : decode cL_law 1334 = .ok (.iload 4, 2) := by decide +kernel
theorem dL_law_1336 : decode cL_law 1336 = .ok (.iconst 1, 1) := by decide +kernel
theorem dL_law_1337 : decode cL_law 1337 = .ok (.iadd, 1) := by decide +kernel
theorem dL_law_1338 : decode cL_law 1338 = .ok (.iaload, 1) := by decide +kernel
theorem dL_law_1339 : decode cL_law 1339 = .ok (.invokevirtual 188, 3) := by decide +kernel
theorem dL_law_1342 : decode cL_law 1342 = .ok (.if_icmp .eq 30, 3) := by decide +kernel
theorem dL_law_1347 : decode cL_law 1347 = .ok (.aload_n 1, 1) := by decide +kernel
theorem dL_law_1348 : decode cL_law 1348 = .ok (.aload_n 0, 1) := by decide +kernel
theorem dL_law_1349 : decode cL_law 1349 = .ok (.iload 4, 2) := by decide +kernel
theorem dL_law_1351 : decode cL_law 1351 = .ok (.iconst 1, 1) := by decide +kernel
theorem dL_law_1352 : decode cL_law 1352 = .ok (.iadd, 1) := by decide +kernel
theorem dL_law_1353 : decode cL_law 1353 = .ok (.iaload, 1) := by decide +kernel
theorem dL_law_1354 : decode cL_law 1354 = .ok (.invokevirtual 189, 3) := by decide +kernel
theorem dL_law_1357 : decode cL_law 1357 = .ok (.aload_n 2, 1) := by decide +kernel
theorem dL_law_1358 : decode cL_law 1358 = .ok (.aload_n 0, 1) := by decide +kernel
theorem dL_law_1359 : decode cL_law 1359 = .ok (.iload 4, 2) := by decide +kernel
theorem dL_law_1361 : decode cL_law 1361 = .ok (.iconst 1, 1) := by decide +kernel
theorem dL_law_1362 : decode cL_law 1362 = .ok (.iadd, 1) := by decide +kernel
theorem dL_law_1363 : decode cL_law 1363 = .ok (.iaload, 1) := by decide +kernel
theorem dL_law_1364 : decode cL_law 1364 = .ok (.invokevirtual 192, 3) := by decide +kernel
theorem dL_law_1367 : decode cL_law 1367 = .ok (.if_icmp .eq 5, 3) := by decide +kernel
theorem dL_law_1372 : decode cL_law 1372 = .ok (.iinc 4 6, 3) := by decide +kernel
theorem dL_law_1375 : decode cL_law 1375 = .ok (.goto (-1352), 3) := by decide +kernel
theorem dL_law_1378 : decode cL_law 1378 = .ok (.iconst 1, 1) := by decide +kernel
theorem dL_law_1379 : decode cL_law 1379 = .ok (.ireturn, 1) := by decide +kernel
/-- two parts of the pool: that of the class's object, that of the reference's -/
def Lq_ (L Lx Lm : List Nat) (κ ln : Nat → Nat) (R : Nat → Nat → Option Nat) (ow : Nat → Nat × Nat) (I : Nat → Nat → Int32) (x mm : Nat) : Prop := (∀ a ∈ Lx, a ∈ L) ∧ Lx.Nodup ∧ (∀ a ∈ Lm, a ∈ L) ∧ Lm.Nodup ∧ (∀ a ∈ Lm, a ∉ Lx) ∧ (∀ a ∈ Lx, Gd Lx κ ln R ow I a) ∧ x ∈ Lx ∧ κ x = 11 ∧ (∀ a ∈ Lm, Gd Lm κ ln R ow I a) ∧ mm ∈ Lm ∧ κ mm = 12
/-- where the law stands, and its script -/
def Lc_ (p : Program) (s : State) (m : MethodId) (c : Code) (D : va_G) (cy : Nat → ClassId) (L : List Nat) (b N : Nat) (xs : Nat → Int32) : Prop := CallFix p m c cL_law 7 s #[Value.ref b] GT RL ∧ Wc_ D cy (AN_ [] s.heap.size) L s ∧ va_X b N xs s s.heap ∧ b < s.heap.size ∧ ¬ AN_ [] s.heap.size b
set_option maxRecDepth 100000 in
set_option maxHeartbeats 4000000 in
theorem lw_one {p : Program} {l : Launch} {e : Env} {s : State} {m : MethodId} {below : List Frame} {meth : Method} {c : Code} {D : va_G} {cy : Nat → ClassId} {L : List Nat} {κ ln : Nat → Nat} {R : Nat → Nat → Option Nat} {I : Nat → Nat → Int32} {J : Nat → Nat → Int64} {x mm oo b N : Nat} {xs : Nat → Int32} (H : Lc_ p s m c D cy L b N xs) (hr : meth.sig.returnType = ret) (hk : meth.locks = false) {v : Int32} {cells slots : Nat} (h1 : cells ≤ 600002) (h2 : slots ≤ 7302231) : WG p l e room_1 s m #[Value.ref b] below meth c 7 cells slots (lw_Z below #[Value.ref b] s) D cy (AN_ [] s.heap.size) s.heap L κ ln R I J 1378 [(4, .int v), (3, .ref oo), (2, .ref mm), (1, .ref x), (0, .ref b)] [] := by
  obtain ⟨C, K, hX, hbl, hbA⟩ := H
  refine g_iconst C (v := 1) dL_law_1378 (by decide) ?_
  intro H locs ls hP hS hl
  exact va_forget (fun q hq => (hS.2.2 q hq).elim (fun h => absurd h List.not_mem_nil) id) (W.widen h1 h2 (lw_ret C.1 C.2.1 hr hk dL_law_1379))
set_option maxRecDepth 100000 in
set_option maxHeartbeats 4000000 in
theorem lw_end {p : Program} {l : Launch} {e : Env} {s : State} {m : MethodId} {below : List Frame} {meth : Method} {c : Code} {D : va_G} {cy : Nat → ClassId} {L : List Nat} {κ ln : Nat → Nat} {R : Nat → Nat → Option Nat} {I : Nat → Nat → Int32} {J : Nat → Nat → Int64} {x mm oo b : Nat} {xs : Nat → Int32} (H : Lc_ p s m c D cy L b 6 xs) (hr : meth.sig.returnType = ret) (hk : meth.locks = false) : WG p l e room_1 s m #[Value.ref b] below meth c 7 249 11287 (lw_Z below #[Value.ref b] s) D cy (AN_ [] s.heap.size) s.heap L κ ln R I J 1372 [(4, .int 0), (3, .ref oo), (2, .ref mm), (1, .ref x), (0, .ref b)] [] := by
  have hC := H
  obtain ⟨C, K, hX, hbl, hbA⟩ := H
  refine g_iinc C (v := 6) (k := 0) dL_law_1372 rfl (by decide) (by decide) (lo2 := [(4, .int 6), (3, .ref oo), (2, .ref mm), (1, .ref x), (0, .ref b)]) rfl ?_
  refine g_goto C (tgt := 23) dL_law_1375 (by decide) ?_
  refine g_iload C 0 dL_law_23 rfl ?_
  refine g_aload_n C 4 dL_law_25 rfl rfl ?_
  refine g_slen C hX hbl hbA dL_law_26 ?_
  refine g_bipush C (v := 6) dL_law_27 (by decide) ?_
  refine g_isub C (v := 0) dL_law_29 (by decide) ?_
  refine t_icmp_gt C (tgt := 1378) (by decide) dL_law_30 (by decide) ?_
  exact lw_one hC hr hk (Nat.le_of_ble_eq_true rfl) (Nat.le_of_ble_eq_true rfl)
set_option maxRecDepth 100000 in
set_option maxHeartbeats 4000000 in
theorem k_feed {p : Program} {l : Launch} {e : Env} {s : State} {m : MethodId} {below : List Frame} {meth : Method} {c : Code} {D : va_G} {cy : Nat → ClassId} {L Lx Lm : List Nat} {κ ln : Nat → Nat} {R : Nat → Nat → Option Nat} {I : Nat → Nat → Int32} {J : Nat → Nat → Int64} {ow : Nat → Nat × Nat} {x mm oo b : Nat} {xs : Nat → Int32} (H : Lc_ p s m c D cy L b 6 xs) (hL : Lq_ L Lx Lm κ ln R ow I x mm) (hend : ∀ (I2 : Nat → Nat → Int32) (J2 : Nat → Nat → Int64), WG p l e room_1 s m #[Value.ref b] below meth c 7 249 11287 (lw_Z below #[Value.ref b] s) D cy (AN_ [] s.heap.size) s.heap L κ ln R I2 J2 1372 [(4, .int 0), (3, .ref oo), (2, .ref mm), (1, .ref x), (0, .ref b)] []) : WG p l e room_1 s m #[Value.ref b] below meth c 7 248 11281 (lw_Z below #[Value.ref b] s) D cy (AN_ [] s.heap.size) s.heap L κ ln R I J 220 [(4, .int 0), (3, .ref oo), (2, .ref mm), (1, .ref x), (0, .ref b)] [] := by
  obtain ⟨C, K, hX, hbl, hbA⟩ := H
  obtain ⟨hxs, hxn, hms, hmn, hdj, Gx, hx, kx, Gm, hm, km⟩ := hL
  have Wx : ∀ a ∈ Lx, Shp Lx κ ln R ow a := fun a ha => (Gx a ha).1
  have Wm : ∀ a ∈ Lm, Shp Lm κ ln R ow a := fun a ha => (Gm a ha).1
  have Fx : Fz_ Lx κ I := fun a ha j => (Gx a ha).2 j
  have Fm : Fz_ Lm κ I := fun a ha j => (Gm a ha).2 j
  refine g_aload_n C 3 dL_law_220 rfl rfl ?_
  refine g_aload_n C 4 dL_law_221 rfl rfl ?_
  refine g_iload C 0 dL_law_222 rfl ?_
  refine g_iconst C (v := 1) dL_law_224 (by decide) ?_
  refine g_iadd C (v := 1) dL_law_225 (by decide) ?_
  refine g_sld C (v := xs 1) hX hbl hbA (by unfold vp_in; decide) (congrArg xs (by decide)) dL_law_226 ?_
  refine g_aload_n C 4 dL_law_227 rfl rfl ?_
  refine g_iload C 0 dL_law_228 rfl ?_
  refine g_iconst C (v := 2) dL_law_230 (by decide) ?_
  refine g_iadd C (v := 2) dL_law_231 (by decide) ?_
  refine g_sld C (v := xs 2) hX hbl hbA (by unfold vp_in; decide) (congrArg xs (by decide)) dL_law_232 ?_
  refine g_aload_n C 4 dL_law_233 rfl rfl ?_
  refine g_iload C 0 dL_law_234 rfl ?_
  refine g_iconst C (v := 3) dL_law_236 (by decide) ?_
  refine g_iadd C (v := 3) dL_law_237 (by decide) ?_
  refine g_sld C (v := xs 3) hX hbl hbA (by unfold vp_in; decide) (congrArg xs (by decide)) dL_law_238 ?_
  refine g_aload_n C 4 dL_law_239 rfl rfl ?_
  refine g_iload C 0 dL_law_240 rfl ?_
  refine g_iconst C (v := 4) dL_law_242 (by decide) ?_
  refine g_iadd C (v := 4) dL_law_243 (by decide) ?_
  refine g_sld C (v := xs 4) hX hbl hbA (by unfold vp_in; decide) (congrArg xs (by decide)) dL_law_244 ?_
  refine g_aload_n C 4 dL_law_245 rfl rfl ?_
  refine g_iload C 0 dL_law_246 rfl ?_
  refine g_iconst C (v := 5) dL_law_248 (by decide) ?_
  refine g_iadd C (v := 5) dL_law_249 (by decide) ?_
  refine g_sld C (v := xs 5) hX hbl hbA (by unfold vp_in; decide) (congrArg xs (by decide)) dL_law_250 ?_
  refine s_callVI C K hxs hxn (t_feed Wx hx kx Fx (xs 1) (xs 2) (xs 3) (xs 4) (xs 5)) hx kx (by decide) rfl v_L_19 rfl ⟨rfl, rfl⟩ ⟨Nat.le_of_ble_eq_true rfl, Nat.le_of_ble_eq_true rfl⟩ (Nat.le_of_ble_eq_true rfl) ⟨Nat.le_of_ble_eq_true rfl, Nat.le_of_ble_eq_true rfl⟩ dL_law_251 (st := []) rfl (fun r1 I2 J2 h1 I3 J3 e1 e2 => ?_)
  have Fm3 : Fz_ Lm κ I3 := fun a ha j => by rw [e2 a (hdj a ha)]; exact Fm a ha j
  refine g_aload_n C 2 dL_law_254 rfl rfl ?_
  refine g_aload_n C 4 dL_law_255 rfl rfl ?_
  refine g_iload C 0 dL_law_256 rfl ?_
  refine g_iconst C (v := 1) dL_law_258 (by decide) ?_
  refine g_iadd C (v := 1) dL_law_259 (by decide) ?_
  refine g_sld C (v := xs 1) hX hbl hbA (by unfold vp_in; decide) (congrArg xs (by decide)) dL_law_260 ?_
  refine g_aload_n C 4 dL_law_261 rfl rfl ?_
  refine g_iload C 0 dL_law_262 rfl ?_
  refine g_iconst C (v := 2) dL_law_264 (by decide) ?_
  refine g_iadd C (v := 2) dL_law_265 (by decide) ?_
  refine g_sld C (v := xs 2) hX hbl hbA (by unfold vp_in; decide) (congrArg xs (by decide)) dL_law_266 ?_
  refine g_aload_n C 4 dL_law_267 rfl rfl ?_
  refine g_iload C 0 dL_law_268 rfl ?_
  refine g_iconst C (v := 3) dL_law_270 (by decide) ?_
  refine g_iadd C (v := 3) dL_law_271 (by decide) ?_
  refine g_sld C (v := xs 3) hX hbl hbA (by unfold vp_in; decide) (congrArg xs (by decide)) dL_law_272 ?_
  refine g_aload_n C 4 dL_law_273 rfl rfl ?_
  refine g_iload C 0 dL_law_274 rfl ?_
  refine g_iconst C (v := 4) dL_law_276 (by decide) ?_
  refine g_iadd C (v := 4) dL_law_277 (by decide) ?_
  refine g_sld C (v := xs 4) hX hbl hbA (by unfold vp_in; decide) (congrArg xs (by decide)) dL_law_278 ?_
  refine g_aload_n C 4 dL_law_279 rfl rfl ?_
  refine g_iload C 0 dL_law_280 rfl ?_
  refine g_iconst C (v := 5) dL_law_282 (by decide) ?_
  refine g_iadd C (v := 5) dL_law_283 (by decide) ?_
  refine g_sld C (v := xs 5) hX hbl hbA (by unfold vp_in; decide) (congrArg xs (by decide)) dL_law_284 ?_
  refine s_callVI C K hms hmn (u_feed Wm hm km Fm3 (xs 1) (xs 2) (xs 3) (xs 4) (xs 5)) hm km (by decide) rfl v_L_23 rfl ⟨rfl, rfl⟩ ⟨Nat.le_of_ble_eq_true rfl, Nat.le_of_ble_eq_true rfl⟩ (Nat.le_of_ble_eq_true rfl) ⟨Nat.le_of_ble_eq_true rfl, Nat.le_of_ble_eq_true rfl⟩ dL_law_285 (st := [.int r1]) rfl (fun r2 I4 J4 h2 I5 J5 e3 e4 => ?_)
  refine t_icmp_eq C (tgt := 1372) (h1.trans h2.symm) dL_law_288 (by decide) ?_
  exact a_wide (Nat.le_of_ble_eq_true rfl) (Nat.le_of_ble_eq_true rfl) (hend I5 J5)
set_option maxRecDepth 100000 in
set_option maxHeartbeats 4000000 in
theorem k_end {p : Program} {l : Launch} {e : Env} {s : State} {m : MethodId} {below : List Frame} {meth : Method} {c : Code} {D : va_G} {cy : Nat → ClassId} {L Lx Lm : List Nat} {κ ln : Nat → Nat} {R : Nat → Nat → Option Nat} {I : Nat → Nat → Int32} {J : Nat → Nat → Int64} {ow : Nat → Nat × Nat} {x mm oo b : Nat} {xs : Nat → Int32} (H : Lc_ p s m c D cy L b 6 xs) (hL : Lq_ L Lx Lm κ ln R ow I x mm) (hend : ∀ (I2 : Nat → Nat → Int32) (J2 : Nat → Nat → Int64), WG p l e room_1 s m #[Value.ref b] below meth c 7 249 11287 (lw_Z below #[Value.ref b] s) D cy (AN_ [] s.heap.size) s.heap L κ ln R I2 J2 1372 [(4, .int 0), (3, .ref oo), (2, .ref mm), (1, .ref x), (0, .ref b)] []) : WG p l e room_1 s m #[Value.ref b] below meth c 7 248 11281 (lw_Z below #[Value.ref b] s) D cy (AN_ [] s.heap.size) s.heap L κ ln R I J 293 [(4, .int 0), (3, .ref oo), (2, .ref mm), (1, .ref x), (0, .ref b)] [] := by
  obtain ⟨C, K, hX, hbl, hbA⟩ := H
  obtain ⟨hxs, hxn, hms, hmn, hdj, Gx, hx, kx, Gm, hm, km⟩ := hL
  have Wx : ∀ a ∈ Lx, Shp Lx κ ln R ow a := fun a ha => (Gx a ha).1
  have Wm : ∀ a ∈ Lm, Shp Lm κ ln R ow a := fun a ha => (Gm a ha).1
  have Fx : Fz_ Lx κ I := fun a ha j => (Gx a ha).2 j
  have Fm : Fz_ Lm κ I := fun a ha j => (Gm a ha).2 j
  refine g_aload_n C 3 dL_law_293 rfl rfl ?_
  refine g_aload_n C 4 dL_law_294 rfl rfl ?_
  refine g_iload C 0 dL_law_295 rfl ?_
  refine g_iconst C (v := 1) dL_law_297 (by decide) ?_
  refine g_iadd C (v := 1) dL_law_298 (by decide) ?_
  refine g_sld C (v := xs 1) hX hbl hbA (by unfold vp_in; decide) (congrArg xs (by decide)) dL_law_299 ?_
  refine s_callVI C K hxs hxn (t_end Wx hx kx Fx (xs 1)) hx kx (by decide) rfl v_L_24 rfl ⟨rfl, rfl⟩ ⟨Nat.le_of_ble_eq_true rfl, Nat.le_of_ble_eq_true rfl⟩ (Nat.le_of_ble_eq_true rfl) ⟨Nat.le_of_ble_eq_true rfl, Nat.le_of_ble_eq_true rfl⟩ dL_law_300 (st := []) rfl (fun r1 I2 J2 h1 I3 J3 e1 e2 => ?_)
  have Fm3 : Fz_ Lm κ I3 := fun a ha j => by rw [e2 a (hdj a ha)]; exact Fm a ha j
  refine g_aload_n C 2 dL_law_303 rfl rfl ?_
  refine g_aload_n C 4 dL_law_304 rfl rfl ?_
  refine g_iload C 0 dL_law_305 rfl ?_
  refine g_iconst C (v := 1) dL_law_307 (by decide) ?_
  refine g_iadd C (v := 1) dL_law_308 (by decide) ?_
  refine g_sld C (v := xs 1) hX hbl hbA (by unfold vp_in; decide) (congrArg xs (by decide)) dL_law_309 ?_
  refine s_callVI C K hms hmn (u_end Wm hm km Fm3 (xs 1)) hm km (by decide) rfl v_L_28 rfl ⟨rfl, rfl⟩ ⟨Nat.le_of_ble_eq_true rfl, Nat.le_of_ble_eq_true rfl⟩ (Nat.le_of_ble_eq_true rfl) ⟨Nat.le_of_ble_eq_true rfl, Nat.le_of_ble_eq_true rfl⟩ dL_law_310 (st := [.int r1]) rfl (fun r2 I4 J4 h2 I5 J5 e3 e4 => ?_)
  refine t_icmp_eq C (tgt := 1372) (h1.trans h2.symm) dL_law_313 (by decide) ?_
  exact a_wide (Nat.le_of_ble_eq_true rfl) (Nat.le_of_ble_eq_true rfl) (hend I5 J5)
set_option maxRecDepth 100000 in
set_option maxHeartbeats 4000000 in
theorem k_table {p : Program} {l : Launch} {e : Env} {s : State} {m : MethodId} {below : List Frame} {meth : Method} {c : Code} {D : va_G} {cy : Nat → ClassId} {L Lx Lm : List Nat} {κ ln : Nat → Nat} {R : Nat → Nat → Option Nat} {I : Nat → Nat → Int32} {J : Nat → Nat → Int64} {ow : Nat → Nat × Nat} {x mm oo b : Nat} {xs : Nat → Int32} (H : Lc_ p s m c D cy L b 6 xs) (hL : Lq_ L Lx Lm κ ln R ow I x mm) (hend : ∀ (I2 : Nat → Nat → Int32) (J2 : Nat → Nat → Int64), WG p l e room_1 s m #[Value.ref b] below meth c 7 249 11287 (lw_Z below #[Value.ref b] s) D cy (AN_ [] s.heap.size) s.heap L κ ln R I2 J2 1372 [(4, .int 0), (3, .ref oo), (2, .ref mm), (1, .ref x), (0, .ref b)] []) : WG p l e room_1 s m #[Value.ref b] below meth c 7 248 11281 (lw_Z below #[Value.ref b] s) D cy (AN_ [] s.heap.size) s.heap L κ ln R I J 318 [(4, .int 0), (3, .ref oo), (2, .ref mm), (1, .ref x), (0, .ref b)] [] := by
  obtain ⟨C, K, hX, hbl, hbA⟩ := H
  obtain ⟨hxs, hxn, hms, hmn, hdj, Gx, hx, kx, Gm, hm, km⟩ := hL
  have Wx : ∀ a ∈ Lx, Shp Lx κ ln R ow a := fun a ha => (Gx a ha).1
  have Wm : ∀ a ∈ Lm, Shp Lm κ ln R ow a := fun a ha => (Gm a ha).1
  have Fx : Fz_ Lx κ I := fun a ha j => (Gx a ha).2 j
  have Fm : Fz_ Lm κ I := fun a ha j => (Gm a ha).2 j
  refine g_aload_n C 3 dL_law_318 rfl rfl ?_
  refine s_callVI C K hxs hxn (t_table Wx hx kx Fx) hx kx (by decide) rfl v_L_29 rfl ⟨rfl, rfl⟩ ⟨Nat.le_of_ble_eq_true rfl, Nat.le_of_ble_eq_true rfl⟩ (Nat.le_of_ble_eq_true rfl) ⟨Nat.le_of_ble_eq_true rfl, Nat.le_of_ble_eq_true rfl⟩ dL_law_319 (st := []) rfl (fun r1 I2 J2 h1 I3 J3 e1 e2 => ?_)
  have Fm3 : Fz_ Lm κ I3 := fun a ha j => by rw [e2 a (hdj a ha)]; exact Fm a ha j
  refine g_aload_n C 2 dL_law_322 rfl rfl ?_
  refine s_callVI C K hms hmn (u_table Wm hm km Fm3) hm km (by decide) rfl v_L_33 rfl ⟨rfl, rfl⟩ ⟨Nat.le_of_ble_eq_true rfl, Nat.le_of_ble_eq_true rfl⟩ (Nat.le_of_ble_eq_true rfl) ⟨Nat.le_of_ble_eq_true rfl, Nat.le_of_ble_eq_true rfl⟩ dL_law_323 (st := [.int r1]) rfl (fun r2 I4 J4 h2 I5 J5 e3 e4 => ?_)
  refine t_icmp_eq C (tgt := 1372) (h1.trans h2.symm) dL_law_326 (by decide) ?_
  exact a_wide (Nat.le_of_ble_eq_true rfl) (Nat.le_of_ble_eq_true rfl) (hend I5 J5)
set_option maxRecDepth 100000 in
set_option maxHeartbeats 4000000 in
theorem k_fault {p : Program} {l : Launch} {e : Env} {s : State} {m : MethodId} {below : List Frame} {meth : Method} {c : Code} {D : va_G} {cy : Nat → ClassId} {L Lx Lm : List Nat} {κ ln : Nat → Nat} {R : Nat → Nat → Option Nat} {I : Nat → Nat → Int32} {J : Nat → Nat → Int64} {ow : Nat → Nat × Nat} {x mm oo b : Nat} {xs : Nat → Int32} (H : Lc_ p s m c D cy L b 6 xs) (hL : Lq_ L Lx Lm κ ln R ow I x mm) (hend : ∀ (I2 : Nat → Nat → Int32) (J2 : Nat → Nat → Int64), WG p l e room_1 s m #[Value.ref b] below meth c 7 249 11287 (lw_Z below #[Value.ref b] s) D cy (AN_ [] s.heap.size) s.heap L κ ln R I2 J2 1372 [(4, .int 0), (3, .ref oo), (2, .ref mm), (1, .ref x), (0, .ref b)] []) : WG p l e room_1 s m #[Value.ref b] below meth c 7 248 11281 (lw_Z below #[Value.ref b] s) D cy (AN_ [] s.heap.size) s.heap L κ ln R I J 331 [(4, .int 0), (3, .ref oo), (2, .ref mm), (1, .ref x), (0, .ref b)] [] := by
  obtain ⟨C, K, hX, hbl, hbA⟩ := H
  obtain ⟨hxs, hxn, hms, hmn, hdj, Gx, hx, kx, Gm, hm, km⟩ := hL
  have Wx : ∀ a ∈ Lx, Shp Lx κ ln R ow a := fun a ha => (Gx a ha).1
  have Wm : ∀ a ∈ Lm, Shp Lm κ ln R ow a := fun a ha => (Gm a ha).1
  have Fx : Fz_ Lx κ I := fun a ha j => (Gx a ha).2 j
  have Fm : Fz_ Lm κ I := fun a ha j => (Gm a ha).2 j
  refine g_aload_n C 3 dL_law_331 rfl rfl ?_
  refine s_callVI C K hxs hxn (t_fault Wx hx kx Fx) hx kx (by decide) rfl v_L_34 rfl ⟨rfl, rfl⟩ ⟨Nat.le_of_ble_eq_true rfl, Nat.le_of_ble_eq_true rfl⟩ (Nat.le_of_ble_eq_true rfl) ⟨Nat.le_of_ble_eq_true rfl, Nat.le_of_ble_eq_true rfl⟩ dL_law_332 (st := []) rfl (fun r1 I2 J2 h1 I3 J3 e1 e2 => ?_)
  have Fm3 : Fz_ Lm κ I3 := fun a ha j => by rw [e2 a (hdj a ha)]; exact Fm a ha j
  refine g_aload_n C 2 dL_law_335 rfl rfl ?_
  refine s_callVI C K hms hmn (u_fault Wm hm km Fm3) hm km (by decide) rfl v_L_37 rfl ⟨rfl, rfl⟩ ⟨Nat.le_of_ble_eq_true rfl, Nat.le_of_ble_eq_true rfl⟩ (Nat.le_of_ble_eq_true rfl) ⟨Nat.le_of_ble_eq_true rfl, Nat.le_of_ble_eq_true rfl⟩ dL_law_336 (st := [.int r1]) rfl (fun r2 I4 J4 h2 I5 J5 e3 e4 => ?_)
  refine t_icmp_eq C (tgt := 1372) (h1.trans h2.symm) dL_law_339 (by decide) ?_
  exact a_wide (Nat.le_of_ble_eq_true rfl) (Nat.le_of_ble_eq_true rfl) (hend I5 J5)
set_option maxRecDepth 100000 in
set_option maxHeartbeats 4000000 in
theorem k_person {p : Program} {l : Launch} {e : Env} {s : State} {m : MethodId} {below : List Frame} {meth : Method} {c : Code} {D : va_G} {cy : Nat → ClassId} {L Lx Lm : List Nat} {κ ln : Nat → Nat} {R : Nat → Nat → Option Nat} {I : Nat → Nat → Int32} {J : Nat → Nat → Int64} {ow : Nat → Nat × Nat} {x mm oo b : Nat} {xs : Nat → Int32} (H : Lc_ p s m c D cy L b 6 xs) (hL : Lq_ L Lx Lm κ ln R ow I x mm) (hst : l.stackTraces = false) {sa : Nat} (hE : Ep_ sa (AN_ [] s.heap.size) s) (hend : ∀ (I2 : Nat → Nat → Int32) (J2 : Nat → Nat → Int64), WG p l e room_1 s m #[Value.ref b] below meth c 7 249 11287 (lw_Z below #[Value.ref b] s) D cy (AN_ [] s.heap.size) s.heap L κ ln R I2 J2 1372 [(4, .int 0), (3, .ref oo), (2, .ref mm), (1, .ref x), (0, .ref b)] []) : WG p l e room_1 s m #[Value.ref b] below meth c 7 248 11281 (lw_Z below #[Value.ref b] s) D cy (AN_ [] s.heap.size) s.heap L κ ln R I J 344 [(4, .int 0), (3, .ref oo), (2, .ref mm), (1, .ref x), (0, .ref b)] [] := by
  obtain ⟨C, K, hX, hbl, hbA⟩ := H
  obtain ⟨hxs, hxn, hms, hmn, hdj, Gx, hx, kx, Gm, hm, km⟩ := hL
  have Wx : ∀ a ∈ Lx, Shp Lx κ ln R ow a := fun a ha => (Gx a ha).1
  have Wm : ∀ a ∈ Lm, Shp Lm κ ln R ow a := fun a ha => (Gm a ha).1
  have Fx : Fz_ Lx κ I := fun a ha j => (Gx a ha).2 j
  have Fm : Fz_ Lm κ I := fun a ha j => (Gm a ha).2 j
  refine g_aload_n C 3 dL_law_344 rfl rfl ?_
  refine g_aload_n C 4 dL_law_345 rfl rfl ?_
  refine g_iload C 0 dL_law_346 rfl ?_
  refine g_iconst C (v := 1) dL_law_348 (by decide) ?_
  refine g_iadd C (v := 1) dL_law_349 (by decide) ?_
  refine g_sld C (v := xs 1) hX hbl hbA (by unfold vp_in; decide) (congrArg xs (by decide)) dL_law_350 ?_
  refine g_aload_n C 4 dL_law_351 rfl rfl ?_
  refine g_iload C 0 dL_law_352 rfl ?_
  refine g_iconst C (v := 2) dL_law_354 (by decide) ?_
  refine g_iadd C (v := 2) dL_law_355 (by decide) ?_
  refine g_sld C (v := xs 2) hX hbl hbA (by unfold vp_in; decide) (congrArg xs (by decide)) dL_law_356 ?_
  refine g_aload_n C 1 dL_law_357 rfl rfl ?_
  refine s_person (ow := ow) C K (fun q h => Or.inr h) hxs hxn hst Wx hx kx Fx hE ⟨Nat.le_of_ble_eq_true rfl, Nat.le_of_ble_eq_true rfl⟩ (Nat.le_of_ble_eq_true rfl) ⟨Nat.le_of_ble_eq_true rfl, Nat.le_of_ble_eq_true rfl⟩ dL_law_358 ?_
  refine g_istore C dL_law_361 (by decide) (lo2 := [(5, .int 1), (4, .int 0), (3, .ref oo), (2, .ref mm), (1, .ref x), (0, .ref b)]) rfl ?_
  refine g_aload_n C 3 dL_law_363 rfl rfl ?_
  refine g_aload_n C 5 dL_law_364 rfl rfl ?_
  refine g_iload C 1 dL_law_365 rfl ?_
  refine g_iconst C (v := 1) dL_law_367 (by decide) ?_
  refine g_iadd C (v := 1) dL_law_368 (by decide) ?_
  refine g_sld C (v := xs 1) hX hbl hbA (by unfold vp_in; decide) (congrArg xs (by decide)) dL_law_369 ?_
  refine g_aload_n C 5 dL_law_370 rfl rfl ?_
  refine g_iload C 1 dL_law_371 rfl ?_
  refine g_iconst C (v := 2) dL_law_373 (by decide) ?_
  refine g_iadd C (v := 2) dL_law_374 (by decide) ?_
  refine g_sld C (v := xs 2) hX hbl hbA (by unfold vp_in; decide) (congrArg xs (by decide)) dL_law_375 ?_
  refine s_callVI C K hms hmn (u_person Wm hm km Fm (xs 1) (xs 2)) hm km (by decide) rfl v_L_43 rfl ⟨rfl, rfl⟩ ⟨Nat.le_of_ble_eq_true rfl, Nat.le_of_ble_eq_true rfl⟩ (Nat.le_of_ble_eq_true rfl) ⟨Nat.le_of_ble_eq_true rfl, Nat.le_of_ble_eq_true rfl⟩ dL_law_376 (st := []) rfl (fun r1 I2 J2 h1 I3 J3 e1 e2 => ?_)
  obtain ⟨-, h0, -⟩ := h1
  refine g_istore C dL_law_379 (by decide) (lo2 := [(6, .int r1), (5, .int 1), (4, .int 0), (3, .ref oo), (2, .ref mm), (1, .ref x), (0, .ref b)]) rfl ?_
  refine g_aload_n C 4 dL_law_381 rfl rfl ?_
  refine s_callVI C K hms hmn (m_thrown1 hm km (by rw [e1 mm hm]; exact h0)) hm km (by decide) rfl v_L_44 rfl ⟨rfl, rfl⟩ ⟨Nat.le_of_ble_eq_true rfl, Nat.le_of_ble_eq_true rfl⟩ (Nat.le_of_ble_eq_true rfl) ⟨Nat.le_of_ble_eq_true rfl, Nat.le_of_ble_eq_true rfl⟩ dL_law_382 (st := []) rfl (fun r2 I4 J4 h2 I5 J5 e3 e4 => ?_)
  refine g_iload C 1 dL_law_385 rfl ?_
  refine t_icmp_eq C (tgt := 392) h2.2.2 dL_law_387 (by decide) ?_
  refine g_iload C 1 dL_law_392 rfl ?_
  refine t_if_ne C (tgt := 409) (by decide) dL_law_394 (by decide) ?_
  refine g_goto C (tgt := 1372) dL_law_409 (by decide) ?_
  refine g_lo (is := [2, 3, 4, 5, 6]) (lo2 := [(4, .int 0), (3, .ref oo), (2, .ref mm), (1, .ref x), (0, .ref b)]) rfl ?_
  exact hend I5 J5
set_option maxRecDepth 100000 in
set_option maxHeartbeats 4000000 in
theorem k_plate {p : Program} {l : Launch} {e : Env} {s : State} {m : MethodId} {below : List Frame} {meth : Method} {c : Code} {D : va_G} {cy : Nat → ClassId} {L Lx Lm : List Nat} {κ ln : Nat → Nat} {R : Nat → Nat → Option Nat} {I : Nat → Nat → Int32} {J : Nat → Nat → Int64} {ow : Nat → Nat × Nat} {x mm oo b : Nat} {xs : Nat → Int32} (H : Lc_ p s m c D cy L b 6 xs) (hL : Lq_ L Lx Lm κ ln R ow I x mm) (hend : ∀ (I2 : Nat → Nat → Int32) (J2 : Nat → Nat → Int64), WG p l e room_1 s m #[Value.ref b] below meth c 7 249 11287 (lw_Z below #[Value.ref b] s) D cy (AN_ [] s.heap.size) s.heap L κ ln R I2 J2 1372 [(4, .int 0), (3, .ref oo), (2, .ref mm), (1, .ref x), (0, .ref b)] []) : WG p l e room_1 s m #[Value.ref b] below meth c 7 248 11281 (lw_Z below #[Value.ref b] s) D cy (AN_ [] s.heap.size) s.heap L κ ln R I J 412 [(4, .int 0), (3, .ref oo), (2, .ref mm), (1, .ref x), (0, .ref b)] [] := by
  obtain ⟨C, K, hX, hbl, hbA⟩ := H
  obtain ⟨hxs, hxn, hms, hmn, hdj, Gx, hx, kx, Gm, hm, km⟩ := hL
  have Wx : ∀ a ∈ Lx, Shp Lx κ ln R ow a := fun a ha => (Gx a ha).1
  have Wm : ∀ a ∈ Lm, Shp Lm κ ln R ow a := fun a ha => (Gm a ha).1
  have Fx : Fz_ Lx κ I := fun a ha j => (Gx a ha).2 j
  have Fm : Fz_ Lm κ I := fun a ha j => (Gm a ha).2 j
  refine g_aload_n C 3 dL_law_412 rfl rfl ?_
  refine g_aload_n C 4 dL_law_413 rfl rfl ?_
  refine g_iload C 0 dL_law_414 rfl ?_
  refine g_iconst C (v := 1) dL_law_416 (by decide) ?_
  refine g_iadd C (v := 1) dL_law_417 (by decide) ?_
  refine g_sld C (v := xs 1) hX hbl hbA (by unfold vp_in; decide) (congrArg xs (by decide)) dL_law_418 ?_
  refine g_aload_n C 4 dL_law_419 rfl rfl ?_
  refine g_iload C 0 dL_law_420 rfl ?_
  refine g_iconst C (v := 2) dL_law_422 (by decide) ?_
  refine g_iadd C (v := 2) dL_law_423 (by decide) ?_
  refine g_sld C (v := xs 2) hX hbl hbA (by unfold vp_in; decide) (congrArg xs (by decide)) dL_law_424 ?_
  refine s_callVI C K hxs hxn (t_plate Wx hx kx Fx (xs 1) (xs 2)) hx kx (by decide) rfl v_L_47 rfl ⟨rfl, rfl⟩ ⟨Nat.le_of_ble_eq_true rfl, Nat.le_of_ble_eq_true rfl⟩ (Nat.le_of_ble_eq_true rfl) ⟨Nat.le_of_ble_eq_true rfl, Nat.le_of_ble_eq_true rfl⟩ dL_law_425 (st := []) rfl (fun r1 I2 J2 h1 I3 J3 e1 e2 => ?_)
  have Fm3 : Fz_ Lm κ I3 := fun a ha j => by rw [e2 a (hdj a ha)]; exact Fm a ha j
  refine g_aload_n C 2 dL_law_428 rfl rfl ?_
  refine g_aload_n C 4 dL_law_429 rfl rfl ?_
  refine g_iload C 0 dL_law_430 rfl ?_
  refine g_iconst C (v := 1) dL_law_432 (by decide) ?_
  refine g_iadd C (v := 1) dL_law_433 (by decide) ?_
  refine g_sld C (v := xs 1) hX hbl hbA (by unfold vp_in; decide) (congrArg xs (by decide)) dL_law_434 ?_
  refine g_aload_n C 4 dL_law_435 rfl rfl ?_
  refine g_iload C 0 dL_law_436 rfl ?_
  refine g_iconst C (v := 2) dL_law_438 (by decide) ?_
  refine g_iadd C (v := 2) dL_law_439 (by decide) ?_
  refine g_sld C (v := xs 2) hX hbl hbA (by unfold vp_in; decide) (congrArg xs (by decide)) dL_law_440 ?_
  refine s_callVI C K hms hmn (u_plate Wm hm km Fm3 (xs 1) (xs 2)) hm km (by decide) rfl v_L_50 rfl ⟨rfl, rfl⟩ ⟨Nat.le_of_ble_eq_true rfl, Nat.le_of_ble_eq_true rfl⟩ (Nat.le_of_ble_eq_true rfl) ⟨Nat.le_of_ble_eq_true rfl, Nat.le_of_ble_eq_true rfl⟩ dL_law_441 (st := [.int r1]) rfl (fun r2 I4 J4 h2 I5 J5 e3 e4 => ?_)
  refine t_icmp_eq C (tgt := 1372) (h1.trans h2.symm) dL_law_444 (by decide) ?_
  exact a_wide (Nat.le_of_ble_eq_true rfl) (Nat.le_of_ble_eq_true rfl) (hend I5 J5)
set_option maxRecDepth 100000 in
set_option maxHeartbeats 4000000 in
theorem k_dish {p : Program} {l : Launch} {e : Env} {s : State} {m : MethodId} {below : List Frame} {meth : Method} {c : Code} {D : va_G} {cy : Nat → ClassId} {L Lx Lm : List Nat} {κ ln : Nat → Nat} {R : Nat → Nat → Option Nat} {I : Nat → Nat → Int32} {J : Nat → Nat → Int64} {ow : Nat → Nat × Nat} {x mm oo b : Nat} {xs : Nat → Int32} (H : Lc_ p s m c D cy L b 6 xs) (hL : Lq_ L Lx Lm κ ln R ow I x mm) (hend : ∀ (I2 : Nat → Nat → Int32) (J2 : Nat → Nat → Int64), WG p l e room_1 s m #[Value.ref b] below meth c 7 249 11287 (lw_Z below #[Value.ref b] s) D cy (AN_ [] s.heap.size) s.heap L κ ln R I2 J2 1372 [(4, .int 0), (3, .ref oo), (2, .ref mm), (1, .ref x), (0, .ref b)] []) : WG p l e room_1 s m #[Value.ref b] below meth c 7 248 11281 (lw_Z below #[Value.ref b] s) D cy (AN_ [] s.heap.size) s.heap L κ ln R I J 449 [(4, .int 0), (3, .ref oo), (2, .ref mm), (1, .ref x), (0, .ref b)] [] := by
  obtain ⟨C, K, hX, hbl, hbA⟩ := H
  obtain ⟨hxs, hxn, hms, hmn, hdj, Gx, hx, kx, Gm, hm, km⟩ := hL
  have Wx : ∀ a ∈ Lx, Shp Lx κ ln R ow a := fun a ha => (Gx a ha).1
  have Wm : ∀ a ∈ Lm, Shp Lm κ ln R ow a := fun a ha => (Gm a ha).1
  have Fx : Fz_ Lx κ I := fun a ha j => (Gx a ha).2 j
  have Fm : Fz_ Lm κ I := fun a ha j => (Gm a ha).2 j
  refine g_aload_n C 3 dL_law_449 rfl rfl ?_
  refine g_aload_n C 4 dL_law_450 rfl rfl ?_
  refine g_iload C 0 dL_law_451 rfl ?_
  refine g_iconst C (v := 1) dL_law_453 (by decide) ?_
  refine g_iadd C (v := 1) dL_law_454 (by decide) ?_
  refine g_sld C (v := xs 1) hX hbl hbA (by unfold vp_in; decide) (congrArg xs (by decide)) dL_law_455 ?_
  refine g_aload_n C 4 dL_law_456 rfl rfl ?_
  refine g_iload C 0 dL_law_457 rfl ?_
  refine g_iconst C (v := 2) dL_law_459 (by decide) ?_
  refine g_iadd C (v := 2) dL_law_460 (by decide) ?_
  refine g_sld C (v := xs 2) hX hbl hbA (by unfold vp_in; decide) (congrArg xs (by decide)) dL_law_461 ?_
  refine s_callVI C K hxs hxn (t_dish Wx hx kx Fx (xs 1) (xs 2)) hx kx (by decide) rfl v_L_51 rfl ⟨rfl, rfl⟩ ⟨Nat.le_of_ble_eq_true rfl, Nat.le_of_ble_eq_true rfl⟩ (Nat.le_of_ble_eq_true rfl) ⟨Nat.le_of_ble_eq_true rfl, Nat.le_of_ble_eq_true rfl⟩ dL_law_462 (st := []) rfl (fun r1 I2 J2 h1 I3 J3 e1 e2 => ?_)
  have Fm3 : Fz_ Lm κ I3 := fun a ha j => by rw [e2 a (hdj a ha)]; exact Fm a ha j
  refine g_aload_n C 2 dL_law_465 rfl rfl ?_
  refine g_aload_n C 4 dL_law_466 rfl rfl ?_
  refine g_iload C 0 dL_law_467 rfl ?_
  refine g_iconst C (v := 1) dL_law_469 (by decide) ?_
  refine g_iadd C (v := 1) dL_law_470 (by decide) ?_
  refine g_sld C (v := xs 1) hX hbl hbA (by unfold vp_in; decide) (congrArg xs (by decide)) dL_law_471 ?_
  refine g_aload_n C 4 dL_law_472 rfl rfl ?_
  refine g_iload C 0 dL_law_473 rfl ?_
  refine g_iconst C (v := 2) dL_law_475 (by decide) ?_
  refine g_iadd C (v := 2) dL_law_476 (by decide) ?_
  refine g_sld C (v := xs 2) hX hbl hbA (by unfold vp_in; decide) (congrArg xs (by decide)) dL_law_477 ?_
  refine s_callVI C K hms hmn (u_dish Wm hm km Fm3 (xs 1) (xs 2)) hm km (by decide) rfl v_L_54 rfl ⟨rfl, rfl⟩ ⟨Nat.le_of_ble_eq_true rfl, Nat.le_of_ble_eq_true rfl⟩ (Nat.le_of_ble_eq_true rfl) ⟨Nat.le_of_ble_eq_true rfl, Nat.le_of_ble_eq_true rfl⟩ dL_law_478 (st := [.int r1]) rfl (fun r2 I4 J4 h2 I5 J5 e3 e4 => ?_)
  refine t_icmp_eq C (tgt := 1372) (h1.trans h2.symm) dL_law_481 (by decide) ?_
  exact a_wide (Nat.le_of_ble_eq_true rfl) (Nat.le_of_ble_eq_true rfl) (hend I5 J5)
set_option maxRecDepth 100000 in
set_option maxHeartbeats 4000000 in
theorem k_now {p : Program} {l : Launch} {e : Env} {s : State} {m : MethodId} {below : List Frame} {meth : Method} {c : Code} {D : va_G} {cy : Nat → ClassId} {L Lx Lm : List Nat} {κ ln : Nat → Nat} {R : Nat → Nat → Option Nat} {I : Nat → Nat → Int32} {J : Nat → Nat → Int64} {ow : Nat → Nat × Nat} {x mm oo b : Nat} {xs : Nat → Int32} (H : Lc_ p s m c D cy L b 6 xs) (hL : Lq_ L Lx Lm κ ln R ow I x mm) (hend : ∀ (I2 : Nat → Nat → Int32) (J2 : Nat → Nat → Int64), WG p l e room_1 s m #[Value.ref b] below meth c 7 249 11287 (lw_Z below #[Value.ref b] s) D cy (AN_ [] s.heap.size) s.heap L κ ln R I2 J2 1372 [(4, .int 0), (3, .ref oo), (2, .ref mm), (1, .ref x), (0, .ref b)] []) : WG p l e room_1 s m #[Value.ref b] below meth c 7 248 11281 (lw_Z below #[Value.ref b] s) D cy (AN_ [] s.heap.size) s.heap L κ ln R I J 486 [(4, .int 0), (3, .ref oo), (2, .ref mm), (1, .ref x), (0, .ref b)] [] := by
  obtain ⟨C, K, hX, hbl, hbA⟩ := H
  obtain ⟨hxs, hxn, hms, hmn, hdj, Gx, hx, kx, Gm, hm, km⟩ := hL
  have Wx : ∀ a ∈ Lx, Shp Lx κ ln R ow a := fun a ha => (Gx a ha).1
  have Wm : ∀ a ∈ Lm, Shp Lm κ ln R ow a := fun a ha => (Gm a ha).1
  have Fx : Fz_ Lx κ I := fun a ha j => (Gx a ha).2 j
  have Fm : Fz_ Lm κ I := fun a ha j => (Gm a ha).2 j
  refine g_aload_n C 3 dL_law_486 rfl rfl ?_
  refine g_aload_n C 4 dL_law_487 rfl rfl ?_
  refine g_iload C 0 dL_law_488 rfl ?_
  refine g_iconst C (v := 1) dL_law_490 (by decide) ?_
  refine g_iadd C (v := 1) dL_law_491 (by decide) ?_
  refine g_sld C (v := xs 1) hX hbl hbA (by unfold vp_in; decide) (congrArg xs (by decide)) dL_law_492 ?_
  refine s_callVI C K hxs hxn (t_now Wx hx kx Fx (xs 1)) hx kx (by decide) rfl v_L_55 rfl ⟨rfl, rfl⟩ ⟨Nat.le_of_ble_eq_true rfl, Nat.le_of_ble_eq_true rfl⟩ (Nat.le_of_ble_eq_true rfl) ⟨Nat.le_of_ble_eq_true rfl, Nat.le_of_ble_eq_true rfl⟩ dL_law_493 (st := []) rfl (fun r1 I2 J2 h1 I3 J3 e1 e2 => ?_)
  have Fm3 : Fz_ Lm κ I3 := fun a ha j => by rw [e2 a (hdj a ha)]; exact Fm a ha j
  refine g_aload_n C 2 dL_law_496 rfl rfl ?_
  refine g_aload_n C 4 dL_law_497 rfl rfl ?_
  refine g_iload C 0 dL_law_498 rfl ?_
  refine g_iconst C (v := 1) dL_law_500 (by decide) ?_
  refine g_iadd C (v := 1) dL_law_501 (by decide) ?_
  refine g_sld C (v := xs 1) hX hbl hbA (by unfold vp_in; decide) (congrArg xs (by decide)) dL_law_502 ?_
  refine s_callVI C K hms hmn (u_now Wm hm km Fm3 (xs 1)) hm km (by decide) rfl v_L_59 rfl ⟨rfl, rfl⟩ ⟨Nat.le_of_ble_eq_true rfl, Nat.le_of_ble_eq_true rfl⟩ (Nat.le_of_ble_eq_true rfl) ⟨Nat.le_of_ble_eq_true rfl, Nat.le_of_ble_eq_true rfl⟩ dL_law_503 (st := [.int r1]) rfl (fun r2 I4 J4 h2 I5 J5 e3 e4 => ?_)
  refine t_icmp_eq C (tgt := 1372) (h1.trans h2.symm) dL_law_506 (by decide) ?_
  exact a_wide (Nat.le_of_ble_eq_true rfl) (Nat.le_of_ble_eq_true rfl) (hend I5 J5)
set_option maxRecDepth 100000 in
set_option maxHeartbeats 4000000 in
theorem k_eat {p : Program} {l : Launch} {e : Env} {s : State} {m : MethodId} {below : List Frame} {meth : Method} {c : Code} {D : va_G} {cy : Nat → ClassId} {L Lx Lm : List Nat} {κ ln : Nat → Nat} {R : Nat → Nat → Option Nat} {I : Nat → Nat → Int32} {J : Nat → Nat → Int64} {ow : Nat → Nat × Nat} {x mm oo b : Nat} {xs : Nat → Int32} (H : Lc_ p s m c D cy L b 6 xs) (hL : Lq_ L Lx Lm κ ln R ow I x mm) (hend : ∀ (I2 : Nat → Nat → Int32) (J2 : Nat → Nat → Int64), WG p l e room_1 s m #[Value.ref b] below meth c 7 249 11287 (lw_Z below #[Value.ref b] s) D cy (AN_ [] s.heap.size) s.heap L κ ln R I2 J2 1372 [(4, .int 0), (3, .ref oo), (2, .ref mm), (1, .ref x), (0, .ref b)] []) : WG p l e room_1 s m #[Value.ref b] below meth c 7 248 11281 (lw_Z below #[Value.ref b] s) D cy (AN_ [] s.heap.size) s.heap L κ ln R I J 511 [(4, .int 0), (3, .ref oo), (2, .ref mm), (1, .ref x), (0, .ref b)] [] := by
  obtain ⟨C, K, hX, hbl, hbA⟩ := H
  obtain ⟨hxs, hxn, hms, hmn, hdj, Gx, hx, kx, Gm, hm, km⟩ := hL
  have Wx : ∀ a ∈ Lx, Shp Lx κ ln R ow a := fun a ha => (Gx a ha).1
  have Wm : ∀ a ∈ Lm, Shp Lm κ ln R ow a := fun a ha => (Gm a ha).1
  have Fx : Fz_ Lx κ I := fun a ha j => (Gx a ha).2 j
  have Fm : Fz_ Lm κ I := fun a ha j => (Gm a ha).2 j
  refine g_aload_n C 3 dL_law_511 rfl rfl ?_
  refine g_aload_n C 4 dL_law_512 rfl rfl ?_
  refine g_iload C 0 dL_law_513 rfl ?_
  refine g_iconst C (v := 1) dL_law_515 (by decide) ?_
  refine g_iadd C (v := 1) dL_law_516 (by decide) ?_
  refine g_sld C (v := xs 1) hX hbl hbA (by unfold vp_in; decide) (congrArg xs (by decide)) dL_law_517 ?_
  refine g_aload_n C 4 dL_law_518 rfl rfl ?_
  refine g_iload C 0 dL_law_519 rfl ?_
  refine g_iconst C (v := 2) dL_law_521 (by decide) ?_
  refine g_iadd C (v := 2) dL_law_522 (by decide) ?_
  refine g_sld C (v := xs 2) hX hbl hbA (by unfold vp_in; decide) (congrArg xs (by decide)) dL_law_523 ?_
  refine g_aload_n C 4 dL_law_524 rfl rfl ?_
  refine g_iload C 0 dL_law_525 rfl ?_
  refine g_iconst C (v := 3) dL_law_527 (by decide) ?_
  refine g_iadd C (v := 3) dL_law_528 (by decide) ?_
  refine g_sld C (v := xs 3) hX hbl hbA (by unfold vp_in; decide) (congrArg xs (by decide)) dL_law_529 ?_
  refine s_callVI C K hxs hxn (t_eat Wx hx kx Fx (xs 1) (xs 2) (xs 3)) hx kx (by decide) rfl v_L_60 rfl ⟨rfl, rfl⟩ ⟨Nat.le_of_ble_eq_true rfl, Nat.le_of_ble_eq_true rfl⟩ (Nat.le_of_ble_eq_true rfl) ⟨Nat.le_of_ble_eq_true rfl, Nat.le_of_ble_eq_true rfl⟩ dL_law_530 (st := []) rfl (fun r1 I2 J2 h1 I3 J3 e1 e2 => ?_)
  have Fm3 : Fz_ Lm κ I3 := fun a ha j => by rw [e2 a (hdj a ha)]; exact Fm a ha j
  refine g_aload_n C 2 dL_law_533 rfl rfl ?_
  refine g_aload_n C 4 dL_law_534 rfl rfl ?_
  refine g_iload C 0 dL_law_535 rfl ?_
  refine g_iconst C (v := 1) dL_law_537 (by decide) ?_
  refine g_iadd C (v := 1) dL_law_538 (by decide) ?_
  refine g_sld C (v := xs 1) hX hbl hbA (by unfold vp_in; decide) (congrArg xs (by decide)) dL_law_539 ?_
  refine g_aload_n C 4 dL_law_540 rfl rfl ?_
  refine g_iload C 0 dL_law_541 rfl ?_
  refine g_iconst C (v := 2) dL_law_543 (by decide) ?_
  refine g_iadd C (v := 2) dL_law_544 (by decide) ?_
  refine g_sld C (v := xs 2) hX hbl hbA (by unfold vp_in; decide) (congrArg xs (by decide)) dL_law_545 ?_
  refine g_aload_n C 4 dL_law_546 rfl rfl ?_
  refine g_iload C 0 dL_law_547 rfl ?_
  refine g_iconst C (v := 3) dL_law_549 (by decide) ?_
  refine g_iadd C (v := 3) dL_law_550 (by decide) ?_
  refine g_sld C (v := xs 3) hX hbl hbA (by unfold vp_in; decide) (congrArg xs (by decide)) dL_law_551 ?_
  refine s_callVI C K hms hmn (u_eat Wm hm km Fm3 (xs 1) (xs 2) (xs 3)) hm km (by decide) rfl v_L_64 rfl ⟨rfl, rfl⟩ ⟨Nat.le_of_ble_eq_true rfl, Nat.le_of_ble_eq_true rfl⟩ (Nat.le_of_ble_eq_true rfl) ⟨Nat.le_of_ble_eq_true rfl, Nat.le_of_ble_eq_true rfl⟩ dL_law_552 (st := [.int r1]) rfl (fun r2 I4 J4 h2 I5 J5 e3 e4 => ?_)
  refine t_icmp_eq C (tgt := 1372) (h1.trans h2.symm) dL_law_555 (by decide) ?_
  exact a_wide (Nat.le_of_ble_eq_true rfl) (Nat.le_of_ble_eq_true rfl) (hend I5 J5)
set_option maxRecDepth 100000 in
set_option maxHeartbeats 4000000 in
theorem k_serve {p : Program} {l : Launch} {e : Env} {s : State} {m : MethodId} {below : List Frame} {meth : Method} {c : Code} {D : va_G} {cy : Nat → ClassId} {L Lx Lm : List Nat} {κ ln : Nat → Nat} {R : Nat → Nat → Option Nat} {I : Nat → Nat → Int32} {J : Nat → Nat → Int64} {ow : Nat → Nat × Nat} {x mm oo b : Nat} {xs : Nat → Int32} (H : Lc_ p s m c D cy L b 6 xs) (hL : Lq_ L Lx Lm κ ln R ow I x mm) (hend : ∀ (I2 : Nat → Nat → Int32) (J2 : Nat → Nat → Int64), WG p l e room_1 s m #[Value.ref b] below meth c 7 249 11287 (lw_Z below #[Value.ref b] s) D cy (AN_ [] s.heap.size) s.heap L κ ln R I2 J2 1372 [(4, .int 0), (3, .ref oo), (2, .ref mm), (1, .ref x), (0, .ref b)] []) : WG p l e room_1 s m #[Value.ref b] below meth c 7 248 11281 (lw_Z below #[Value.ref b] s) D cy (AN_ [] s.heap.size) s.heap L κ ln R I J 560 [(4, .int 0), (3, .ref oo), (2, .ref mm), (1, .ref x), (0, .ref b)] [] := by
  obtain ⟨C, K, hX, hbl, hbA⟩ := H
  obtain ⟨hxs, hxn, hms, hmn, hdj, Gx, hx, kx, Gm, hm, km⟩ := hL
  have Wx : ∀ a ∈ Lx, Shp Lx κ ln R ow a := fun a ha => (Gx a ha).1
  have Wm : ∀ a ∈ Lm, Shp Lm κ ln R ow a := fun a ha => (Gm a ha).1
  have Fx : Fz_ Lx κ I := fun a ha j => (Gx a ha).2 j
  have Fm : Fz_ Lm κ I := fun a ha j => (Gm a ha).2 j
  refine g_aload_n C 3 dL_law_560 rfl rfl ?_
  refine g_aload_n C 4 dL_law_561 rfl rfl ?_
  refine g_iload C 0 dL_law_562 rfl ?_
  refine g_iconst C (v := 1) dL_law_564 (by decide) ?_
  refine g_iadd C (v := 1) dL_law_565 (by decide) ?_
  refine g_sld C (v := xs 1) hX hbl hbA (by unfold vp_in; decide) (congrArg xs (by decide)) dL_law_566 ?_
  refine g_aload_n C 4 dL_law_567 rfl rfl ?_
  refine g_iload C 0 dL_law_568 rfl ?_
  refine g_iconst C (v := 2) dL_law_570 (by decide) ?_
  refine g_iadd C (v := 2) dL_law_571 (by decide) ?_
  refine g_sld C (v := xs 2) hX hbl hbA (by unfold vp_in; decide) (congrArg xs (by decide)) dL_law_572 ?_
  refine g_aload_n C 4 dL_law_573 rfl rfl ?_
  refine g_iload C 0 dL_law_574 rfl ?_
  refine g_iconst C (v := 3) dL_law_576 (by decide) ?_
  refine g_iadd C (v := 3) dL_law_577 (by decide) ?_
  refine g_sld C (v := xs 3) hX hbl hbA (by unfold vp_in; decide) (congrArg xs (by decide)) dL_law_578 ?_
  refine s_callVI C K hxs hxn (t_serve Wx hx kx Fx (xs 1) (xs 2) (xs 3)) hx kx (by decide) rfl v_L_65 rfl ⟨rfl, rfl⟩ ⟨Nat.le_of_ble_eq_true rfl, Nat.le_of_ble_eq_true rfl⟩ (Nat.le_of_ble_eq_true rfl) ⟨Nat.le_of_ble_eq_true rfl, Nat.le_of_ble_eq_true rfl⟩ dL_law_579 (st := []) rfl (fun r1 I2 J2 h1 I3 J3 e1 e2 => ?_)
  have Fm3 : Fz_ Lm κ I3 := fun a ha j => by rw [e2 a (hdj a ha)]; exact Fm a ha j
  refine g_aload_n C 2 dL_law_582 rfl rfl ?_
  refine g_aload_n C 4 dL_law_583 rfl rfl ?_
  refine g_iload C 0 dL_law_584 rfl ?_
  refine g_iconst C (v := 1) dL_law_586 (by decide) ?_
  refine g_iadd C (v := 1) dL_law_587 (by decide) ?_
  refine g_sld C (v := xs 1) hX hbl hbA (by unfold vp_in; decide) (congrArg xs (by decide)) dL_law_588 ?_
  refine g_aload_n C 4 dL_law_589 rfl rfl ?_
  refine g_iload C 0 dL_law_590 rfl ?_
  refine g_iconst C (v := 2) dL_law_592 (by decide) ?_
  refine g_iadd C (v := 2) dL_law_593 (by decide) ?_
  refine g_sld C (v := xs 2) hX hbl hbA (by unfold vp_in; decide) (congrArg xs (by decide)) dL_law_594 ?_
  refine g_aload_n C 4 dL_law_595 rfl rfl ?_
  refine g_iload C 0 dL_law_596 rfl ?_
  refine g_iconst C (v := 3) dL_law_598 (by decide) ?_
  refine g_iadd C (v := 3) dL_law_599 (by decide) ?_
  refine g_sld C (v := xs 3) hX hbl hbA (by unfold vp_in; decide) (congrArg xs (by decide)) dL_law_600 ?_
  refine s_callVI C K hms hmn (u_serve Wm hm km Fm3 (xs 1) (xs 2) (xs 3)) hm km (by decide) rfl v_L_68 rfl ⟨rfl, rfl⟩ ⟨Nat.le_of_ble_eq_true rfl, Nat.le_of_ble_eq_true rfl⟩ (Nat.le_of_ble_eq_true rfl) ⟨Nat.le_of_ble_eq_true rfl, Nat.le_of_ble_eq_true rfl⟩ dL_law_601 (st := [.int r1]) rfl (fun r2 I4 J4 h2 I5 J5 e3 e4 => ?_)
  refine t_icmp_eq C (tgt := 1372) (h1.trans h2.symm) dL_law_604 (by decide) ?_
  exact a_wide (Nat.le_of_ble_eq_true rfl) (Nat.le_of_ble_eq_true rfl) (hend I5 J5)
set_option maxRecDepth 100000 in
set_option maxHeartbeats 4000000 in
theorem k_rise {p : Program} {l : Launch} {e : Env} {s : State} {m : MethodId} {below : List Frame} {meth : Method} {c : Code} {D : va_G} {cy : Nat → ClassId} {L Lx Lm : List Nat} {κ ln : Nat → Nat} {R : Nat → Nat → Option Nat} {I : Nat → Nat → Int32} {J : Nat → Nat → Int64} {ow : Nat → Nat × Nat} {x mm oo b : Nat} {xs : Nat → Int32} (H : Lc_ p s m c D cy L b 6 xs) (hL : Lq_ L Lx Lm κ ln R ow I x mm) (hend : ∀ (I2 : Nat → Nat → Int32) (J2 : Nat → Nat → Int64), WG p l e room_1 s m #[Value.ref b] below meth c 7 249 11287 (lw_Z below #[Value.ref b] s) D cy (AN_ [] s.heap.size) s.heap L κ ln R I2 J2 1372 [(4, .int 0), (3, .ref oo), (2, .ref mm), (1, .ref x), (0, .ref b)] []) : WG p l e room_1 s m #[Value.ref b] below meth c 7 248 11281 (lw_Z below #[Value.ref b] s) D cy (AN_ [] s.heap.size) s.heap L κ ln R I J 609 [(4, .int 0), (3, .ref oo), (2, .ref mm), (1, .ref x), (0, .ref b)] [] := by
  obtain ⟨C, K, hX, hbl, hbA⟩ := H
  obtain ⟨hxs, hxn, hms, hmn, hdj, Gx, hx, kx, Gm, hm, km⟩ := hL
  have Wx : ∀ a ∈ Lx, Shp Lx κ ln R ow a := fun a ha => (Gx a ha).1
  have Wm : ∀ a ∈ Lm, Shp Lm κ ln R ow a := fun a ha => (Gm a ha).1
  have Fx : Fz_ Lx κ I := fun a ha j => (Gx a ha).2 j
  have Fm : Fz_ Lm κ I := fun a ha j => (Gm a ha).2 j
  refine g_aload_n C 3 dL_law_609 rfl rfl ?_
  refine g_aload_n C 4 dL_law_610 rfl rfl ?_
  refine g_iload C 0 dL_law_611 rfl ?_
  refine g_iconst C (v := 1) dL_law_613 (by decide) ?_
  refine g_iadd C (v := 1) dL_law_614 (by decide) ?_
  refine g_sld C (v := xs 1) hX hbl hbA (by unfold vp_in; decide) (congrArg xs (by decide)) dL_law_615 ?_
  refine s_callVI C K hxs hxn (t_rise Wx hx kx Fx (xs 1)) hx kx (by decide) rfl v_L_69 rfl ⟨rfl, rfl⟩ ⟨Nat.le_of_ble_eq_true rfl, Nat.le_of_ble_eq_true rfl⟩ (Nat.le_of_ble_eq_true rfl) ⟨Nat.le_of_ble_eq_true rfl, Nat.le_of_ble_eq_true rfl⟩ dL_law_616 (st := []) rfl (fun r1 I2 J2 h1 I3 J3 e1 e2 => ?_)
  have Fm3 : Fz_ Lm κ I3 := fun a ha j => by rw [e2 a (hdj a ha)]; exact Fm a ha j
  refine g_aload_n C 2 dL_law_619 rfl rfl ?_
  refine g_aload_n C 4 dL_law_620 rfl rfl ?_
  refine g_iload C 0 dL_law_621 rfl ?_
  refine g_iconst C (v := 1) dL_law_623 (by decide) ?_
  refine g_iadd C (v := 1) dL_law_624 (by decide) ?_
  refine g_sld C (v := xs 1) hX hbl hbA (by unfold vp_in; decide) (congrArg xs (by decide)) dL_law_625 ?_
  refine s_callVI C K hms hmn (u_rise Wm hm km Fm3 (xs 1)) hm km (by decide) rfl v_L_72 rfl ⟨rfl, rfl⟩ ⟨Nat.le_of_ble_eq_true rfl, Nat.le_of_ble_eq_true rfl⟩ (Nat.le_of_ble_eq_true rfl) ⟨Nat.le_of_ble_eq_true rfl, Nat.le_of_ble_eq_true rfl⟩ dL_law_626 (st := [.int r1]) rfl (fun r2 I4 J4 h2 I5 J5 e3 e4 => ?_)
  refine t_icmp_eq C (tgt := 1372) (h1.trans h2.symm) dL_law_629 (by decide) ?_
  exact a_wide (Nat.le_of_ble_eq_true rfl) (Nat.le_of_ble_eq_true rfl) (hend I5 J5)
set_option maxRecDepth 100000 in
set_option maxHeartbeats 4000000 in
theorem k_refuse {p : Program} {l : Launch} {e : Env} {s : State} {m : MethodId} {below : List Frame} {meth : Method} {c : Code} {D : va_G} {cy : Nat → ClassId} {L Lx Lm : List Nat} {κ ln : Nat → Nat} {R : Nat → Nat → Option Nat} {I : Nat → Nat → Int32} {J : Nat → Nat → Int64} {ow : Nat → Nat × Nat} {x mm oo b : Nat} {xs : Nat → Int32} (H : Lc_ p s m c D cy L b 6 xs) (hL : Lq_ L Lx Lm κ ln R ow I x mm) (hend : ∀ (I2 : Nat → Nat → Int32) (J2 : Nat → Nat → Int64), WG p l e room_1 s m #[Value.ref b] below meth c 7 249 11287 (lw_Z below #[Value.ref b] s) D cy (AN_ [] s.heap.size) s.heap L κ ln R I2 J2 1372 [(4, .int 0), (3, .ref oo), (2, .ref mm), (1, .ref x), (0, .ref b)] []) : WG p l e room_1 s m #[Value.ref b] below meth c 7 248 11281 (lw_Z below #[Value.ref b] s) D cy (AN_ [] s.heap.size) s.heap L κ ln R I J 634 [(4, .int 0), (3, .ref oo), (2, .ref mm), (1, .ref x), (0, .ref b)] [] := by
  obtain ⟨C, K, hX, hbl, hbA⟩ := H
  obtain ⟨hxs, hxn, hms, hmn, hdj, Gx, hx, kx, Gm, hm, km⟩ := hL
  have Wx : ∀ a ∈ Lx, Shp Lx κ ln R ow a := fun a ha => (Gx a ha).1
  have Wm : ∀ a ∈ Lm, Shp Lm κ ln R ow a := fun a ha => (Gm a ha).1
  have Fx : Fz_ Lx κ I := fun a ha j => (Gx a ha).2 j
  have Fm : Fz_ Lm κ I := fun a ha j => (Gm a ha).2 j
  refine g_aload_n C 3 dL_law_634 rfl rfl ?_
  refine g_aload_n C 4 dL_law_635 rfl rfl ?_
  refine g_iload C 0 dL_law_636 rfl ?_
  refine g_iconst C (v := 1) dL_law_638 (by decide) ?_
  refine g_iadd C (v := 1) dL_law_639 (by decide) ?_
  refine g_sld C (v := xs 1) hX hbl hbA (by unfold vp_in; decide) (congrArg xs (by decide)) dL_law_640 ?_
  refine s_callVI C K hxs hxn (t_refuse Wx hx kx Fx (xs 1)) hx kx (by decide) rfl v_L_73 rfl ⟨rfl, rfl⟩ ⟨Nat.le_of_ble_eq_true rfl, Nat.le_of_ble_eq_true rfl⟩ (Nat.le_of_ble_eq_true rfl) ⟨Nat.le_of_ble_eq_true rfl, Nat.le_of_ble_eq_true rfl⟩ dL_law_641 (st := []) rfl (fun r1 I2 J2 h1 I3 J3 e1 e2 => ?_)
  have Fm3 : Fz_ Lm κ I3 := fun a ha j => by rw [e2 a (hdj a ha)]; exact Fm a ha j
  refine g_aload_n C 2 dL_law_644 rfl rfl ?_
  refine g_aload_n C 4 dL_law_645 rfl rfl ?_
  refine g_iload C 0 dL_law_646 rfl ?_
  refine g_iconst C (v := 1) dL_law_648 (by decide) ?_
  refine g_iadd C (v := 1) dL_law_649 (by decide) ?_
  refine g_sld C (v := xs 1) hX hbl hbA (by unfold vp_in; decide) (congrArg xs (by decide)) dL_law_650 ?_
  refine s_callVI C K hms hmn (u_refuse Wm hm km Fm3 (xs 1)) hm km (by decide) rfl v_L_76 rfl ⟨rfl, rfl⟩ ⟨Nat.le_of_ble_eq_true rfl, Nat.le_of_ble_eq_true rfl⟩ (Nat.le_of_ble_eq_true rfl) ⟨Nat.le_of_ble_eq_true rfl, Nat.le_of_ble_eq_true rfl⟩ dL_law_651 (st := [.int r1]) rfl (fun r2 I4 J4 h2 I5 J5 e3 e4 => ?_)
  refine t_icmp_eq C (tgt := 1372) (h1.trans h2.symm) dL_law_654 (by decide) ?_
  exact a_wide (Nat.le_of_ble_eq_true rfl) (Nat.le_of_ble_eq_true rfl) (hend I5 J5)
set_option maxRecDepth 100000 in
set_option maxHeartbeats 4000000 in
theorem k_accept {p : Program} {l : Launch} {e : Env} {s : State} {m : MethodId} {below : List Frame} {meth : Method} {c : Code} {D : va_G} {cy : Nat → ClassId} {L Lx Lm : List Nat} {κ ln : Nat → Nat} {R : Nat → Nat → Option Nat} {I : Nat → Nat → Int32} {J : Nat → Nat → Int64} {ow : Nat → Nat × Nat} {x mm oo b : Nat} {xs : Nat → Int32} (H : Lc_ p s m c D cy L b 6 xs) (hL : Lq_ L Lx Lm κ ln R ow I x mm) (hend : ∀ (I2 : Nat → Nat → Int32) (J2 : Nat → Nat → Int64), WG p l e room_1 s m #[Value.ref b] below meth c 7 249 11287 (lw_Z below #[Value.ref b] s) D cy (AN_ [] s.heap.size) s.heap L κ ln R I2 J2 1372 [(4, .int 0), (3, .ref oo), (2, .ref mm), (1, .ref x), (0, .ref b)] []) : WG p l e room_1 s m #[Value.ref b] below meth c 7 248 11281 (lw_Z below #[Value.ref b] s) D cy (AN_ [] s.heap.size) s.heap L κ ln R I J 659 [(4, .int 0), (3, .ref oo), (2, .ref mm), (1, .ref x), (0, .ref b)] [] := by
  obtain ⟨C, K, hX, hbl, hbA⟩ := H
  obtain ⟨hxs, hxn, hms, hmn, hdj, Gx, hx, kx, Gm, hm, km⟩ := hL
  have Wx : ∀ a ∈ Lx, Shp Lx κ ln R ow a := fun a ha => (Gx a ha).1
  have Wm : ∀ a ∈ Lm, Shp Lm κ ln R ow a := fun a ha => (Gm a ha).1
  have Fx : Fz_ Lx κ I := fun a ha j => (Gx a ha).2 j
  have Fm : Fz_ Lm κ I := fun a ha j => (Gm a ha).2 j
  refine g_aload_n C 3 dL_law_659 rfl rfl ?_
  refine g_aload_n C 4 dL_law_660 rfl rfl ?_
  refine g_iload C 0 dL_law_661 rfl ?_
  refine g_iconst C (v := 1) dL_law_663 (by decide) ?_
  refine g_iadd C (v := 1) dL_law_664 (by decide) ?_
  refine g_sld C (v := xs 1) hX hbl hbA (by unfold vp_in; decide) (congrArg xs (by decide)) dL_law_665 ?_
  refine s_callVI C K hxs hxn (t_accept Wx hx kx Fx (xs 1)) hx kx (by decide) rfl v_L_77 rfl ⟨rfl, rfl⟩ ⟨Nat.le_of_ble_eq_true rfl, Nat.le_of_ble_eq_true rfl⟩ (Nat.le_of_ble_eq_true rfl) ⟨Nat.le_of_ble_eq_true rfl, Nat.le_of_ble_eq_true rfl⟩ dL_law_666 (st := []) rfl (fun r1 I2 J2 h1 I3 J3 e1 e2 => ?_)
  have Fm3 : Fz_ Lm κ I3 := fun a ha j => by rw [e2 a (hdj a ha)]; exact Fm a ha j
  refine g_aload_n C 2 dL_law_669 rfl rfl ?_
  refine g_aload_n C 4 dL_law_670 rfl rfl ?_
  refine g_iload C 0 dL_law_671 rfl ?_
  refine g_iconst C (v := 1) dL_law_673 (by decide) ?_
  refine g_iadd C (v := 1) dL_law_674 (by decide) ?_
  refine g_sld C (v := xs 1) hX hbl hbA (by unfold vp_in; decide) (congrArg xs (by decide)) dL_law_675 ?_
  refine s_callVI C K hms hmn (u_accept Wm hm km Fm3 (xs 1)) hm km (by decide) rfl v_L_80 rfl ⟨rfl, rfl⟩ ⟨Nat.le_of_ble_eq_true rfl, Nat.le_of_ble_eq_true rfl⟩ (Nat.le_of_ble_eq_true rfl) ⟨Nat.le_of_ble_eq_true rfl, Nat.le_of_ble_eq_true rfl⟩ dL_law_676 (st := [.int r1]) rfl (fun r2 I4 J4 h2 I5 J5 e3 e4 => ?_)
  refine t_icmp_eq C (tgt := 1372) (h1.trans h2.symm) dL_law_679 (by decide) ?_
  exact a_wide (Nat.le_of_ble_eq_true rfl) (Nat.le_of_ble_eq_true rfl) (hend I5 J5)
set_option maxRecDepth 100000 in
set_option maxHeartbeats 4000000 in
theorem k_die {p : Program} {l : Launch} {e : Env} {s : State} {m : MethodId} {below : List Frame} {meth : Method} {c : Code} {D : va_G} {cy : Nat → ClassId} {L Lx Lm : List Nat} {κ ln : Nat → Nat} {R : Nat → Nat → Option Nat} {I : Nat → Nat → Int32} {J : Nat → Nat → Int64} {ow : Nat → Nat × Nat} {x mm oo b : Nat} {xs : Nat → Int32} (H : Lc_ p s m c D cy L b 6 xs) (hL : Lq_ L Lx Lm κ ln R ow I x mm) (hend : ∀ (I2 : Nat → Nat → Int32) (J2 : Nat → Nat → Int64), WG p l e room_1 s m #[Value.ref b] below meth c 7 249 11287 (lw_Z below #[Value.ref b] s) D cy (AN_ [] s.heap.size) s.heap L κ ln R I2 J2 1372 [(4, .int 0), (3, .ref oo), (2, .ref mm), (1, .ref x), (0, .ref b)] []) : WG p l e room_1 s m #[Value.ref b] below meth c 7 248 11281 (lw_Z below #[Value.ref b] s) D cy (AN_ [] s.heap.size) s.heap L κ ln R I J 684 [(4, .int 0), (3, .ref oo), (2, .ref mm), (1, .ref x), (0, .ref b)] [] := by
  obtain ⟨C, K, hX, hbl, hbA⟩ := H
  obtain ⟨hxs, hxn, hms, hmn, hdj, Gx, hx, kx, Gm, hm, km⟩ := hL
  have Wx : ∀ a ∈ Lx, Shp Lx κ ln R ow a := fun a ha => (Gx a ha).1
  have Wm : ∀ a ∈ Lm, Shp Lm κ ln R ow a := fun a ha => (Gm a ha).1
  have Fx : Fz_ Lx κ I := fun a ha j => (Gx a ha).2 j
  have Fm : Fz_ Lm κ I := fun a ha j => (Gm a ha).2 j
  refine g_aload_n C 3 dL_law_684 rfl rfl ?_
  refine g_aload_n C 4 dL_law_685 rfl rfl ?_
  refine g_iload C 0 dL_law_686 rfl ?_
  refine g_iconst C (v := 1) dL_law_688 (by decide) ?_
  refine g_iadd C (v := 1) dL_law_689 (by decide) ?_
  refine g_sld C (v := xs 1) hX hbl hbA (by unfold vp_in; decide) (congrArg xs (by decide)) dL_law_690 ?_
  refine s_callVI C K hxs hxn (t_die Wx hx kx Fx (xs 1)) hx kx (by decide) rfl v_L_81 rfl ⟨rfl, rfl⟩ ⟨Nat.le_of_ble_eq_true rfl, Nat.le_of_ble_eq_true rfl⟩ (Nat.le_of_ble_eq_true rfl) ⟨Nat.le_of_ble_eq_true rfl, Nat.le_of_ble_eq_true rfl⟩ dL_law_691 (st := []) rfl (fun r1 I2 J2 h1 I3 J3 e1 e2 => ?_)
  have Fm3 : Fz_ Lm κ I3 := fun a ha j => by rw [e2 a (hdj a ha)]; exact Fm a ha j
  refine g_aload_n C 2 dL_law_694 rfl rfl ?_
  refine g_aload_n C 4 dL_law_695 rfl rfl ?_
  refine g_iload C 0 dL_law_696 rfl ?_
  refine g_iconst C (v := 1) dL_law_698 (by decide) ?_
  refine g_iadd C (v := 1) dL_law_699 (by decide) ?_
  refine g_sld C (v := xs 1) hX hbl hbA (by unfold vp_in; decide) (congrArg xs (by decide)) dL_law_700 ?_
  refine s_callVI C K hms hmn (u_die Wm hm km Fm3 (xs 1)) hm km (by decide) rfl v_L_84 rfl ⟨rfl, rfl⟩ ⟨Nat.le_of_ble_eq_true rfl, Nat.le_of_ble_eq_true rfl⟩ (Nat.le_of_ble_eq_true rfl) ⟨Nat.le_of_ble_eq_true rfl, Nat.le_of_ble_eq_true rfl⟩ dL_law_701 (st := [.int r1]) rfl (fun r2 I4 J4 h2 I5 J5 e3 e4 => ?_)
  refine t_icmp_eq C (tgt := 1372) (h1.trans h2.symm) dL_law_704 (by decide) ?_
  exact a_wide (Nat.le_of_ble_eq_true rfl) (Nat.le_of_ble_eq_true rfl) (hend I5 J5)
set_option maxRecDepth 100000 in
set_option maxHeartbeats 4000000 in
theorem k_meals {p : Program} {l : Launch} {e : Env} {s : State} {m : MethodId} {below : List Frame} {meth : Method} {c : Code} {D : va_G} {cy : Nat → ClassId} {L Lx Lm : List Nat} {κ ln : Nat → Nat} {R : Nat → Nat → Option Nat} {I : Nat → Nat → Int32} {J : Nat → Nat → Int64} {ow : Nat → Nat × Nat} {x mm oo b : Nat} {xs : Nat → Int32} (H : Lc_ p s m c D cy L b 6 xs) (hL : Lq_ L Lx Lm κ ln R ow I x mm) (hend : ∀ (I2 : Nat → Nat → Int32) (J2 : Nat → Nat → Int64), WG p l e room_1 s m #[Value.ref b] below meth c 7 249 11287 (lw_Z below #[Value.ref b] s) D cy (AN_ [] s.heap.size) s.heap L κ ln R I2 J2 1372 [(4, .int 0), (3, .ref oo), (2, .ref mm), (1, .ref x), (0, .ref b)] []) : WG p l e room_1 s m #[Value.ref b] below meth c 7 248 11281 (lw_Z below #[Value.ref b] s) D cy (AN_ [] s.heap.size) s.heap L κ ln R I J 709 [(4, .int 0), (3, .ref oo), (2, .ref mm), (1, .ref x), (0, .ref b)] [] := by
  obtain ⟨C, K, hX, hbl, hbA⟩ := H
  obtain ⟨hxs, hxn, hms, hmn, hdj, Gx, hx, kx, Gm, hm, km⟩ := hL
  have Wx : ∀ a ∈ Lx, Shp Lx κ ln R ow a := fun a ha => (Gx a ha).1
  have Wm : ∀ a ∈ Lm, Shp Lm κ ln R ow a := fun a ha => (Gm a ha).1
  have Fx : Fz_ Lx κ I := fun a ha j => (Gx a ha).2 j
  have Fm : Fz_ Lm κ I := fun a ha j => (Gm a ha).2 j
  refine g_aload_n C 3 dL_law_709 rfl rfl ?_
  refine g_aload_n C 4 dL_law_710 rfl rfl ?_
  refine g_iload C 0 dL_law_711 rfl ?_
  refine g_iconst C (v := 1) dL_law_713 (by decide) ?_
  refine g_iadd C (v := 1) dL_law_714 (by decide) ?_
  refine g_sld C (v := xs 1) hX hbl hbA (by unfold vp_in; decide) (congrArg xs (by decide)) dL_law_715 ?_
  refine s_callVI C K hxs hxn (t_meals Wx hx kx Fx (xs 1)) hx kx (by decide) rfl v_L_85 rfl ⟨rfl, rfl⟩ ⟨Nat.le_of_ble_eq_true rfl, Nat.le_of_ble_eq_true rfl⟩ (Nat.le_of_ble_eq_true rfl) ⟨Nat.le_of_ble_eq_true rfl, Nat.le_of_ble_eq_true rfl⟩ dL_law_716 (st := []) rfl (fun r1 I2 J2 h1 I3 J3 e1 e2 => ?_)
  have Fm3 : Fz_ Lm κ I3 := fun a ha j => by rw [e2 a (hdj a ha)]; exact Fm a ha j
  refine g_aload_n C 2 dL_law_719 rfl rfl ?_
  refine g_aload_n C 4 dL_law_720 rfl rfl ?_
  refine g_iload C 0 dL_law_721 rfl ?_
  refine g_iconst C (v := 1) dL_law_723 (by decide) ?_
  refine g_iadd C (v := 1) dL_law_724 (by decide) ?_
  refine g_sld C (v := xs 1) hX hbl hbA (by unfold vp_in; decide) (congrArg xs (by decide)) dL_law_725 ?_
  refine s_callVI C K hms hmn (u_meals Wm hm km Fm3 (xs 1)) hm km (by decide) rfl v_L_88 rfl ⟨rfl, rfl⟩ ⟨Nat.le_of_ble_eq_true rfl, Nat.le_of_ble_eq_true rfl⟩ (Nat.le_of_ble_eq_true rfl) ⟨Nat.le_of_ble_eq_true rfl, Nat.le_of_ble_eq_true rfl⟩ dL_law_726 (st := [.int r1]) rfl (fun r2 I4 J4 h2 I5 J5 e3 e4 => ?_)
  refine t_icmp_eq C (tgt := 1372) (h1.trans h2.symm) dL_law_729 (by decide) ?_
  exact a_wide (Nat.le_of_ble_eq_true rfl) (Nat.le_of_ble_eq_true rfl) (hend I5 J5)
set_option maxRecDepth 100000 in
set_option maxHeartbeats 4000000 in
theorem k_undo {p : Program} {l : Launch} {e : Env} {s : State} {m : MethodId} {below : List Frame} {meth : Method} {c : Code} {D : va_G} {cy : Nat → ClassId} {L Lx Lm : List Nat} {κ ln : Nat → Nat} {R : Nat → Nat → Option Nat} {I : Nat → Nat → Int32} {J : Nat → Nat → Int64} {ow : Nat → Nat × Nat} {x mm oo b : Nat} {xs : Nat → Int32} (H : Lc_ p s m c D cy L b 6 xs) (hL : Lq_ L Lx Lm κ ln R ow I x mm) (hend : ∀ (I2 : Nat → Nat → Int32) (J2 : Nat → Nat → Int64), WG p l e room_1 s m #[Value.ref b] below meth c 7 249 11287 (lw_Z below #[Value.ref b] s) D cy (AN_ [] s.heap.size) s.heap L κ ln R I2 J2 1372 [(4, .int 0), (3, .ref oo), (2, .ref mm), (1, .ref x), (0, .ref b)] []) : WG p l e room_1 s m #[Value.ref b] below meth c 7 248 11281 (lw_Z below #[Value.ref b] s) D cy (AN_ [] s.heap.size) s.heap L κ ln R I J 734 [(4, .int 0), (3, .ref oo), (2, .ref mm), (1, .ref x), (0, .ref b)] [] := by
  obtain ⟨C, K, hX, hbl, hbA⟩ := H
  obtain ⟨hxs, hxn, hms, hmn, hdj, Gx, hx, kx, Gm, hm, km⟩ := hL
  have Wx : ∀ a ∈ Lx, Shp Lx κ ln R ow a := fun a ha => (Gx a ha).1
  have Wm : ∀ a ∈ Lm, Shp Lm κ ln R ow a := fun a ha => (Gm a ha).1
  have Fx : Fz_ Lx κ I := fun a ha j => (Gx a ha).2 j
  have Fm : Fz_ Lm κ I := fun a ha j => (Gm a ha).2 j
  refine g_aload_n C 3 dL_law_734 rfl rfl ?_
  refine s_callVI C K hxs hxn (t_undo Wx hx kx Fx) hx kx (by decide) rfl v_L_89 rfl ⟨rfl, rfl⟩ ⟨Nat.le_of_ble_eq_true rfl, Nat.le_of_ble_eq_true rfl⟩ (Nat.le_of_ble_eq_true rfl) ⟨Nat.le_of_ble_eq_true rfl, Nat.le_of_ble_eq_true rfl⟩ dL_law_735 (st := []) rfl (fun r1 I2 J2 h1 I3 J3 e1 e2 => ?_)
  have Fm3 : Fz_ Lm κ I3 := fun a ha j => by rw [e2 a (hdj a ha)]; exact Fm a ha j
  refine g_aload_n C 2 dL_law_738 rfl rfl ?_
  refine s_callVI C K hms hmn (u_undo Wm hm km Fm3) hm km (by decide) rfl v_L_92 rfl ⟨rfl, rfl⟩ ⟨Nat.le_of_ble_eq_true rfl, Nat.le_of_ble_eq_true rfl⟩ (Nat.le_of_ble_eq_true rfl) ⟨Nat.le_of_ble_eq_true rfl, Nat.le_of_ble_eq_true rfl⟩ dL_law_739 (st := [.int r1]) rfl (fun r2 I4 J4 h2 I5 J5 e3 e4 => ?_)
  refine t_icmp_eq C (tgt := 1372) (h1.trans h2.symm) dL_law_742 (by decide) ?_
  exact a_wide (Nat.le_of_ble_eq_true rfl) (Nat.le_of_ble_eq_true rfl) (hend I5 J5)
set_option maxRecDepth 100000 in
set_option maxHeartbeats 4000000 in
theorem k_heir {p : Program} {l : Launch} {e : Env} {s : State} {m : MethodId} {below : List Frame} {meth : Method} {c : Code} {D : va_G} {cy : Nat → ClassId} {L Lx Lm : List Nat} {κ ln : Nat → Nat} {R : Nat → Nat → Option Nat} {I : Nat → Nat → Int32} {J : Nat → Nat → Int64} {ow : Nat → Nat × Nat} {x mm oo b : Nat} {xs : Nat → Int32} (H : Lc_ p s m c D cy L b 6 xs) (hL : Lq_ L Lx Lm κ ln R ow I x mm) (hend : ∀ (I2 : Nat → Nat → Int32) (J2 : Nat → Nat → Int64), WG p l e room_1 s m #[Value.ref b] below meth c 7 249 11287 (lw_Z below #[Value.ref b] s) D cy (AN_ [] s.heap.size) s.heap L κ ln R I2 J2 1372 [(4, .int 0), (3, .ref oo), (2, .ref mm), (1, .ref x), (0, .ref b)] []) : WG p l e room_1 s m #[Value.ref b] below meth c 7 248 11281 (lw_Z below #[Value.ref b] s) D cy (AN_ [] s.heap.size) s.heap L κ ln R I J 747 [(4, .int 0), (3, .ref oo), (2, .ref mm), (1, .ref x), (0, .ref b)] [] := by
  obtain ⟨C, K, hX, hbl, hbA⟩ := H
  obtain ⟨hxs, hxn, hms, hmn, hdj, Gx, hx, kx, Gm, hm, km⟩ := hL
  have Wx : ∀ a ∈ Lx, Shp Lx κ ln R ow a := fun a ha => (Gx a ha).1
  have Wm : ∀ a ∈ Lm, Shp Lm κ ln R ow a := fun a ha => (Gm a ha).1
  have Fx : Fz_ Lx κ I := fun a ha j => (Gx a ha).2 j
  have Fm : Fz_ Lm κ I := fun a ha j => (Gm a ha).2 j
  refine g_aload_n C 3 dL_law_747 rfl rfl ?_
  refine g_aload_n C 4 dL_law_748 rfl rfl ?_
  refine g_iload C 0 dL_law_749 rfl ?_
  refine g_iconst C (v := 1) dL_law_751 (by decide) ?_
  refine g_iadd C (v := 1) dL_law_752 (by decide) ?_
  refine g_sld C (v := xs 1) hX hbl hbA (by unfold vp_in; decide) (congrArg xs (by decide)) dL_law_753 ?_
  refine s_callVI C K hxs hxn (t_heir Wx hx kx Fx (xs 1)) hx kx (by decide) rfl v_L_93 rfl ⟨rfl, rfl⟩ ⟨Nat.le_of_ble_eq_true rfl, Nat.le_of_ble_eq_true rfl⟩ (Nat.le_of_ble_eq_true rfl) ⟨Nat.le_of_ble_eq_true rfl, Nat.le_of_ble_eq_true rfl⟩ dL_law_754 (st := []) rfl (fun r1 I2 J2 h1 I3 J3 e1 e2 => ?_)
  have Fm3 : Fz_ Lm κ I3 := fun a ha j => by rw [e2 a (hdj a ha)]; exact Fm a ha j
  refine g_aload_n C 2 dL_law_757 rfl rfl ?_
  refine g_aload_n C 4 dL_law_758 rfl rfl ?_
  refine g_iload C 0 dL_law_759 rfl ?_
  refine g_iconst C (v := 1) dL_law_761 (by decide) ?_
  refine g_iadd C (v := 1) dL_law_762 (by decide) ?_
  refine g_sld C (v := xs 1) hX hbl hbA (by unfold vp_in; decide) (congrArg xs (by decide)) dL_law_763 ?_
  refine s_callVI C K hms hmn (u_heir Wm hm km Fm3 (xs 1)) hm km (by decide) rfl v_L_96 rfl ⟨rfl, rfl⟩ ⟨Nat.le_of_ble_eq_true rfl, Nat.le_of_ble_eq_true rfl⟩ (Nat.le_of_ble_eq_true rfl) ⟨Nat.le_of_ble_eq_true rfl, Nat.le_of_ble_eq_true rfl⟩ dL_law_764 (st := [.int r1]) rfl (fun r2 I4 J4 h2 I5 J5 e3 e4 => ?_)
  refine t_icmp_eq C (tgt := 1372) (h1.trans h2.symm) dL_law_767 (by decide) ?_
  exact a_wide (Nat.le_of_ble_eq_true rfl) (Nat.le_of_ble_eq_true rfl) (hend I5 J5)
set_option maxRecDepth 100000 in
set_option maxHeartbeats 4000000 in
theorem k_line {p : Program} {l : Launch} {e : Env} {s : State} {m : MethodId} {below : List Frame} {meth : Method} {c : Code} {D : va_G} {cy : Nat → ClassId} {L Lx Lm : List Nat} {κ ln : Nat → Nat} {R : Nat → Nat → Option Nat} {I : Nat → Nat → Int32} {J : Nat → Nat → Int64} {ow : Nat → Nat × Nat} {x mm oo b : Nat} {xs : Nat → Int32} (H : Lc_ p s m c D cy L b 6 xs) (hL : Lq_ L Lx Lm κ ln R ow I x mm) (hend : ∀ (I2 : Nat → Nat → Int32) (J2 : Nat → Nat → Int64), WG p l e room_1 s m #[Value.ref b] below meth c 7 249 11287 (lw_Z below #[Value.ref b] s) D cy (AN_ [] s.heap.size) s.heap L κ ln R I2 J2 1372 [(4, .int 0), (3, .ref oo), (2, .ref mm), (1, .ref x), (0, .ref b)] []) : WG p l e room_1 s m #[Value.ref b] below meth c 7 248 11281 (lw_Z below #[Value.ref b] s) D cy (AN_ [] s.heap.size) s.heap L κ ln R I J 772 [(4, .int 0), (3, .ref oo), (2, .ref mm), (1, .ref x), (0, .ref b)] [] := by
  obtain ⟨C, K, hX, hbl, hbA⟩ := H
  obtain ⟨hxs, hxn, hms, hmn, hdj, Gx, hx, kx, Gm, hm, km⟩ := hL
  have Wx : ∀ a ∈ Lx, Shp Lx κ ln R ow a := fun a ha => (Gx a ha).1
  have Wm : ∀ a ∈ Lm, Shp Lm κ ln R ow a := fun a ha => (Gm a ha).1
  have Fx : Fz_ Lx κ I := fun a ha j => (Gx a ha).2 j
  have Fm : Fz_ Lm κ I := fun a ha j => (Gm a ha).2 j
  refine g_aload_n C 3 dL_law_772 rfl rfl ?_
  refine g_aload_n C 4 dL_law_773 rfl rfl ?_
  refine g_iload C 0 dL_law_774 rfl ?_
  refine g_iconst C (v := 1) dL_law_776 (by decide) ?_
  refine g_iadd C (v := 1) dL_law_777 (by decide) ?_
  refine g_sld C (v := xs 1) hX hbl hbA (by unfold vp_in; decide) (congrArg xs (by decide)) dL_law_778 ?_
  refine g_aload_n C 4 dL_law_779 rfl rfl ?_
  refine g_iload C 0 dL_law_780 rfl ?_
  refine g_iconst C (v := 2) dL_law_782 (by decide) ?_
  refine g_iadd C (v := 2) dL_law_783 (by decide) ?_
  refine g_sld C (v := xs 2) hX hbl hbA (by unfold vp_in; decide) (congrArg xs (by decide)) dL_law_784 ?_
  refine s_callVI C K hxs hxn (t_line Wx hx kx Fx (xs 1) (xs 2)) hx kx (by decide) rfl v_L_97 rfl ⟨rfl, rfl⟩ ⟨Nat.le_of_ble_eq_true rfl, Nat.le_of_ble_eq_true rfl⟩ (Nat.le_of_ble_eq_true rfl) ⟨Nat.le_of_ble_eq_true rfl, Nat.le_of_ble_eq_true rfl⟩ dL_law_785 (st := []) rfl (fun r1 I2 J2 h1 I3 J3 e1 e2 => ?_)
  have Fm3 : Fz_ Lm κ I3 := fun a ha j => by rw [e2 a (hdj a ha)]; exact Fm a ha j
  refine g_aload_n C 2 dL_law_788 rfl rfl ?_
  refine g_aload_n C 4 dL_law_789 rfl rfl ?_
  refine g_iload C 0 dL_law_790 rfl ?_
  refine g_iconst C (v := 1) dL_law_792 (by decide) ?_
  refine g_iadd C (v := 1) dL_law_793 (by decide) ?_
  refine g_sld C (v := xs 1) hX hbl hbA (by unfold vp_in; decide) (congrArg xs (by decide)) dL_law_794 ?_
  refine g_aload_n C 4 dL_law_795 rfl rfl ?_
  refine g_iload C 0 dL_law_796 rfl ?_
  refine g_iconst C (v := 2) dL_law_798 (by decide) ?_
  refine g_iadd C (v := 2) dL_law_799 (by decide) ?_
  refine g_sld C (v := xs 2) hX hbl hbA (by unfold vp_in; decide) (congrArg xs (by decide)) dL_law_800 ?_
  refine s_callVI C K hms hmn (u_line Wm hm km Fm3 (xs 1) (xs 2)) hm km (by decide) rfl v_L_100 rfl ⟨rfl, rfl⟩ ⟨Nat.le_of_ble_eq_true rfl, Nat.le_of_ble_eq_true rfl⟩ (Nat.le_of_ble_eq_true rfl) ⟨Nat.le_of_ble_eq_true rfl, Nat.le_of_ble_eq_true rfl⟩ dL_law_801 (st := [.int r1]) rfl (fun r2 I4 J4 h2 I5 J5 e3 e4 => ?_)
  refine t_icmp_eq C (tgt := 1372) (h1.trans h2.symm) dL_law_804 (by decide) ?_
  exact a_wide (Nat.le_of_ble_eq_true rfl) (Nat.le_of_ble_eq_true rfl) (hend I5 J5)
set_option maxRecDepth 100000 in
set_option maxHeartbeats 4000000 in
theorem k_order {p : Program} {l : Launch} {e : Env} {s : State} {m : MethodId} {below : List Frame} {meth : Method} {c : Code} {D : va_G} {cy : Nat → ClassId} {L Lx Lm : List Nat} {κ ln : Nat → Nat} {R : Nat → Nat → Option Nat} {I : Nat → Nat → Int32} {J : Nat → Nat → Int64} {ow : Nat → Nat × Nat} {x mm oo b : Nat} {xs : Nat → Int32} (H : Lc_ p s m c D cy L b 6 xs) (hL : Lq_ L Lx Lm κ ln R ow I x mm) (hend : ∀ (I2 : Nat → Nat → Int32) (J2 : Nat → Nat → Int64), WG p l e room_1 s m #[Value.ref b] below meth c 7 249 11287 (lw_Z below #[Value.ref b] s) D cy (AN_ [] s.heap.size) s.heap L κ ln R I2 J2 1372 [(4, .int 0), (3, .ref oo), (2, .ref mm), (1, .ref x), (0, .ref b)] []) : WG p l e room_1 s m #[Value.ref b] below meth c 7 248 11281 (lw_Z below #[Value.ref b] s) D cy (AN_ [] s.heap.size) s.heap L κ ln R I J 809 [(4, .int 0), (3, .ref oo), (2, .ref mm), (1, .ref x), (0, .ref b)] [] := by
  obtain ⟨C, K, hX, hbl, hbA⟩ := H
  obtain ⟨hxs, hxn, hms, hmn, hdj, Gx, hx, kx, Gm, hm, km⟩ := hL
  have Wx : ∀ a ∈ Lx, Shp Lx κ ln R ow a := fun a ha => (Gx a ha).1
  have Wm : ∀ a ∈ Lm, Shp Lm κ ln R ow a := fun a ha => (Gm a ha).1
  have Fx : Fz_ Lx κ I := fun a ha j => (Gx a ha).2 j
  have Fm : Fz_ Lm κ I := fun a ha j => (Gm a ha).2 j
  refine g_aload_n C 3 dL_law_809 rfl rfl ?_
  refine s_callVI C K hxs hxn (t_order Wx hx kx Fx) hx kx (by decide) rfl v_L_101 rfl ⟨rfl, rfl⟩ ⟨Nat.le_of_ble_eq_true rfl, Nat.le_of_ble_eq_true rfl⟩ (Nat.le_of_ble_eq_true rfl) ⟨Nat.le_of_ble_eq_true rfl, Nat.le_of_ble_eq_true rfl⟩ dL_law_810 (st := []) rfl (fun r1 I2 J2 h1 I3 J3 e1 e2 => ?_)
  have Fm3 : Fz_ Lm κ I3 := fun a ha j => by rw [e2 a (hdj a ha)]; exact Fm a ha j
  refine g_aload_n C 2 dL_law_813 rfl rfl ?_
  refine s_callVI C K hms hmn (u_order Wm hm km Fm3) hm km (by decide) rfl v_L_104 rfl ⟨rfl, rfl⟩ ⟨Nat.le_of_ble_eq_true rfl, Nat.le_of_ble_eq_true rfl⟩ (Nat.le_of_ble_eq_true rfl) ⟨Nat.le_of_ble_eq_true rfl, Nat.le_of_ble_eq_true rfl⟩ dL_law_814 (st := [.int r1]) rfl (fun r2 I4 J4 h2 I5 J5 e3 e4 => ?_)
  refine t_icmp_eq C (tgt := 1372) (h1.trans h2.symm) dL_law_817 (by decide) ?_
  exact a_wide (Nat.le_of_ble_eq_true rfl) (Nat.le_of_ble_eq_true rfl) (hend I5 J5)
set_option maxRecDepth 100000 in
set_option maxHeartbeats 4000000 in
theorem k_orderAt {p : Program} {l : Launch} {e : Env} {s : State} {m : MethodId} {below : List Frame} {meth : Method} {c : Code} {D : va_G} {cy : Nat → ClassId} {L Lx Lm : List Nat} {κ ln : Nat → Nat} {R : Nat → Nat → Option Nat} {I : Nat → Nat → Int32} {J : Nat → Nat → Int64} {ow : Nat → Nat × Nat} {x mm oo b : Nat} {xs : Nat → Int32} (H : Lc_ p s m c D cy L b 6 xs) (hL : Lq_ L Lx Lm κ ln R ow I x mm) (hend : ∀ (I2 : Nat → Nat → Int32) (J2 : Nat → Nat → Int64), WG p l e room_1 s m #[Value.ref b] below meth c 7 249 11287 (lw_Z below #[Value.ref b] s) D cy (AN_ [] s.heap.size) s.heap L κ ln R I2 J2 1372 [(4, .int 0), (3, .ref oo), (2, .ref mm), (1, .ref x), (0, .ref b)] []) : WG p l e room_1 s m #[Value.ref b] below meth c 7 248 11281 (lw_Z below #[Value.ref b] s) D cy (AN_ [] s.heap.size) s.heap L κ ln R I J 822 [(4, .int 0), (3, .ref oo), (2, .ref mm), (1, .ref x), (0, .ref b)] [] := by
  obtain ⟨C, K, hX, hbl, hbA⟩ := H
  obtain ⟨hxs, hxn, hms, hmn, hdj, Gx, hx, kx, Gm, hm, km⟩ := hL
  have Wx : ∀ a ∈ Lx, Shp Lx κ ln R ow a := fun a ha => (Gx a ha).1
  have Wm : ∀ a ∈ Lm, Shp Lm κ ln R ow a := fun a ha => (Gm a ha).1
  have Fx : Fz_ Lx κ I := fun a ha j => (Gx a ha).2 j
  have Fm : Fz_ Lm κ I := fun a ha j => (Gm a ha).2 j
  refine g_aload_n C 3 dL_law_822 rfl rfl ?_
  refine g_aload_n C 4 dL_law_823 rfl rfl ?_
  refine g_iload C 0 dL_law_824 rfl ?_
  refine g_iconst C (v := 1) dL_law_826 (by decide) ?_
  refine g_iadd C (v := 1) dL_law_827 (by decide) ?_
  refine g_sld C (v := xs 1) hX hbl hbA (by unfold vp_in; decide) (congrArg xs (by decide)) dL_law_828 ?_
  refine s_callVI C K hxs hxn (t_orderAt Wx hx kx Fx (xs 1)) hx kx (by decide) rfl v_L_105 rfl ⟨rfl, rfl⟩ ⟨Nat.le_of_ble_eq_true rfl, Nat.le_of_ble_eq_true rfl⟩ (Nat.le_of_ble_eq_true rfl) ⟨Nat.le_of_ble_eq_true rfl, Nat.le_of_ble_eq_true rfl⟩ dL_law_829 (st := []) rfl (fun r1 I2 J2 h1 I3 J3 e1 e2 => ?_)
  have Fm3 : Fz_ Lm κ I3 := fun a ha j => by rw [e2 a (hdj a ha)]; exact Fm a ha j
  refine g_aload_n C 2 dL_law_832 rfl rfl ?_
  refine g_aload_n C 4 dL_law_833 rfl rfl ?_
  refine g_iload C 0 dL_law_834 rfl ?_
  refine g_iconst C (v := 1) dL_law_836 (by decide) ?_
  refine g_iadd C (v := 1) dL_law_837 (by decide) ?_
  refine g_sld C (v := xs 1) hX hbl hbA (by unfold vp_in; decide) (congrArg xs (by decide)) dL_law_838 ?_
  refine s_callVI C K hms hmn (u_orderAt Wm hm km Fm3 (xs 1)) hm km (by decide) rfl v_L_108 rfl ⟨rfl, rfl⟩ ⟨Nat.le_of_ble_eq_true rfl, Nat.le_of_ble_eq_true rfl⟩ (Nat.le_of_ble_eq_true rfl) ⟨Nat.le_of_ble_eq_true rfl, Nat.le_of_ble_eq_true rfl⟩ dL_law_839 (st := [.int r1]) rfl (fun r2 I4 J4 h2 I5 J5 e3 e4 => ?_)
  refine t_icmp_eq C (tgt := 1372) (h1.trans h2.symm) dL_law_842 (by decide) ?_
  exact a_wide (Nat.le_of_ble_eq_true rfl) (Nat.le_of_ble_eq_true rfl) (hend I5 J5)
set_option maxRecDepth 100000 in
set_option maxHeartbeats 4000000 in
theorem k_eaters {p : Program} {l : Launch} {e : Env} {s : State} {m : MethodId} {below : List Frame} {meth : Method} {c : Code} {D : va_G} {cy : Nat → ClassId} {L Lx Lm : List Nat} {κ ln : Nat → Nat} {R : Nat → Nat → Option Nat} {I : Nat → Nat → Int32} {J : Nat → Nat → Int64} {ow : Nat → Nat × Nat} {x mm oo b : Nat} {xs : Nat → Int32} (H : Lc_ p s m c D cy L b 6 xs) (hL : Lq_ L Lx Lm κ ln R ow I x mm) (hend : ∀ (I2 : Nat → Nat → Int32) (J2 : Nat → Nat → Int64), WG p l e room_1 s m #[Value.ref b] below meth c 7 249 11287 (lw_Z below #[Value.ref b] s) D cy (AN_ [] s.heap.size) s.heap L κ ln R I2 J2 1372 [(4, .int 0), (3, .ref oo), (2, .ref mm), (1, .ref x), (0, .ref b)] []) : WG p l e room_1 s m #[Value.ref b] below meth c 7 248 11281 (lw_Z below #[Value.ref b] s) D cy (AN_ [] s.heap.size) s.heap L κ ln R I J 847 [(4, .int 0), (3, .ref oo), (2, .ref mm), (1, .ref x), (0, .ref b)] [] := by
  obtain ⟨C, K, hX, hbl, hbA⟩ := H
  obtain ⟨hxs, hxn, hms, hmn, hdj, Gx, hx, kx, Gm, hm, km⟩ := hL
  have Wx : ∀ a ∈ Lx, Shp Lx κ ln R ow a := fun a ha => (Gx a ha).1
  have Wm : ∀ a ∈ Lm, Shp Lm κ ln R ow a := fun a ha => (Gm a ha).1
  have Fx : Fz_ Lx κ I := fun a ha j => (Gx a ha).2 j
  have Fm : Fz_ Lm κ I := fun a ha j => (Gm a ha).2 j
  refine g_aload_n C 3 dL_law_847 rfl rfl ?_
  refine s_callVI C K hxs hxn (t_eaters Wx hx kx Fx) hx kx (by decide) rfl v_L_109 rfl ⟨rfl, rfl⟩ ⟨Nat.le_of_ble_eq_true rfl, Nat.le_of_ble_eq_true rfl⟩ (Nat.le_of_ble_eq_true rfl) ⟨Nat.le_of_ble_eq_true rfl, Nat.le_of_ble_eq_true rfl⟩ dL_law_848 (st := []) rfl (fun r1 I2 J2 h1 I3 J3 e1 e2 => ?_)
  have Fm3 : Fz_ Lm κ I3 := fun a ha j => by rw [e2 a (hdj a ha)]; exact Fm a ha j
  refine g_aload_n C 2 dL_law_851 rfl rfl ?_
  refine s_callVI C K hms hmn (u_eaters Wm hm km Fm3) hm km (by decide) rfl v_L_112 rfl ⟨rfl, rfl⟩ ⟨Nat.le_of_ble_eq_true rfl, Nat.le_of_ble_eq_true rfl⟩ (Nat.le_of_ble_eq_true rfl) ⟨Nat.le_of_ble_eq_true rfl, Nat.le_of_ble_eq_true rfl⟩ dL_law_852 (st := [.int r1]) rfl (fun r2 I4 J4 h2 I5 J5 e3 e4 => ?_)
  refine t_icmp_eq C (tgt := 1372) (h1.trans h2.symm) dL_law_855 (by decide) ?_
  exact a_wide (Nat.le_of_ble_eq_true rfl) (Nat.le_of_ble_eq_true rfl) (hend I5 J5)
set_option maxRecDepth 100000 in
set_option maxHeartbeats 4000000 in
theorem k_surely {p : Program} {l : Launch} {e : Env} {s : State} {m : MethodId} {below : List Frame} {meth : Method} {c : Code} {D : va_G} {cy : Nat → ClassId} {L Lx Lm : List Nat} {κ ln : Nat → Nat} {R : Nat → Nat → Option Nat} {I : Nat → Nat → Int32} {J : Nat → Nat → Int64} {ow : Nat → Nat × Nat} {x mm oo b : Nat} {xs : Nat → Int32} (H : Lc_ p s m c D cy L b 6 xs) (hL : Lq_ L Lx Lm κ ln R ow I x mm) (hend : ∀ (I2 : Nat → Nat → Int32) (J2 : Nat → Nat → Int64), WG p l e room_1 s m #[Value.ref b] below meth c 7 249 11287 (lw_Z below #[Value.ref b] s) D cy (AN_ [] s.heap.size) s.heap L κ ln R I2 J2 1372 [(4, .int 0), (3, .ref oo), (2, .ref mm), (1, .ref x), (0, .ref b)] []) : WG p l e room_1 s m #[Value.ref b] below meth c 7 248 11281 (lw_Z below #[Value.ref b] s) D cy (AN_ [] s.heap.size) s.heap L κ ln R I J 860 [(4, .int 0), (3, .ref oo), (2, .ref mm), (1, .ref x), (0, .ref b)] [] := by
  obtain ⟨C, K, hX, hbl, hbA⟩ := H
  obtain ⟨hxs, hxn, hms, hmn, hdj, Gx, hx, kx, Gm, hm, km⟩ := hL
  have Wx : ∀ a ∈ Lx, Shp Lx κ ln R ow a := fun a ha => (Gx a ha).1
  have Wm : ∀ a ∈ Lm, Shp Lm κ ln R ow a := fun a ha => (Gm a ha).1
  have Fx : Fz_ Lx κ I := fun a ha j => (Gx a ha).2 j
  have Fm : Fz_ Lm κ I := fun a ha j => (Gm a ha).2 j
  refine g_aload_n C 3 dL_law_860 rfl rfl ?_
  refine s_callVI C K hxs hxn (t_surely Wx hx kx Fx) hx kx (by decide) rfl v_L_113 rfl ⟨rfl, rfl⟩ ⟨Nat.le_of_ble_eq_true rfl, Nat.le_of_ble_eq_true rfl⟩ (Nat.le_of_ble_eq_true rfl) ⟨Nat.le_of_ble_eq_true rfl, Nat.le_of_ble_eq_true rfl⟩ dL_law_861 (st := []) rfl (fun r1 I2 J2 h1 I3 J3 e1 e2 => ?_)
  have Fm3 : Fz_ Lm κ I3 := fun a ha j => by rw [e2 a (hdj a ha)]; exact Fm a ha j
  refine g_aload_n C 2 dL_law_864 rfl rfl ?_
  refine s_callVI C K hms hmn (u_surely Wm hm km Fm3) hm km (by decide) rfl v_L_116 rfl ⟨rfl, rfl⟩ ⟨Nat.le_of_ble_eq_true rfl, Nat.le_of_ble_eq_true rfl⟩ (Nat.le_of_ble_eq_true rfl) ⟨Nat.le_of_ble_eq_true rfl, Nat.le_of_ble_eq_true rfl⟩ dL_law_865 (st := [.int r1]) rfl (fun r2 I4 J4 h2 I5 J5 e3 e4 => ?_)
  refine t_icmp_eq C (tgt := 1372) (h1.trans h2.symm) dL_law_868 (by decide) ?_
  exact a_wide (Nat.le_of_ble_eq_true rfl) (Nat.le_of_ble_eq_true rfl) (hend I5 J5)
set_option maxRecDepth 100000 in
set_option maxHeartbeats 4000000 in
theorem k_ask {p : Program} {l : Launch} {e : Env} {s : State} {m : MethodId} {below : List Frame} {meth : Method} {c : Code} {D : va_G} {cy : Nat → ClassId} {L Lx Lm : List Nat} {κ ln : Nat → Nat} {R : Nat → Nat → Option Nat} {I : Nat → Nat → Int32} {J : Nat → Nat → Int64} {ow : Nat → Nat × Nat} {x mm oo b : Nat} {xs : Nat → Int32} (H : Lc_ p s m c D cy L b 6 xs) (hL : Lq_ L Lx Lm κ ln R ow I x mm) (hend : ∀ (I2 : Nat → Nat → Int32) (J2 : Nat → Nat → Int64), WG p l e room_1 s m #[Value.ref b] below meth c 7 249 11287 (lw_Z below #[Value.ref b] s) D cy (AN_ [] s.heap.size) s.heap L κ ln R I2 J2 1372 [(4, .int 0), (3, .ref oo), (2, .ref mm), (1, .ref x), (0, .ref b)] []) : WG p l e room_1 s m #[Value.ref b] below meth c 7 248 11281 (lw_Z below #[Value.ref b] s) D cy (AN_ [] s.heap.size) s.heap L κ ln R I J 873 [(4, .int 0), (3, .ref oo), (2, .ref mm), (1, .ref x), (0, .ref b)] [] := by
  obtain ⟨C, K, hX, hbl, hbA⟩ := H
  obtain ⟨hxs, hxn, hms, hmn, hdj, Gx, hx, kx, Gm, hm, km⟩ := hL
  have Wx : ∀ a ∈ Lx, Shp Lx κ ln R ow a := fun a ha => (Gx a ha).1
  have Wm : ∀ a ∈ Lm, Shp Lm κ ln R ow a := fun a ha => (Gm a ha).1
  have Fx : Fz_ Lx κ I := fun a ha j => (Gx a ha).2 j
  have Fm : Fz_ Lm κ I := fun a ha j => (Gm a ha).2 j
  refine g_aload_n C 3 dL_law_873 rfl rfl ?_
  refine s_callVI C K hxs hxn (t_ask Wx hx kx Fx) hx kx (by decide) rfl v_L_117 rfl ⟨rfl, rfl⟩ ⟨Nat.le_of_ble_eq_true rfl, Nat.le_of_ble_eq_true rfl⟩ (Nat.le_of_ble_eq_true rfl) ⟨Nat.le_of_ble_eq_true rfl, Nat.le_of_ble_eq_true rfl⟩ dL_law_874 (st := []) rfl (fun r1 I2 J2 h1 I3 J3 e1 e2 => ?_)
  have Fm3 : Fz_ Lm κ I3 := fun a ha j => by rw [e2 a (hdj a ha)]; exact Fm a ha j
  refine g_aload_n C 2 dL_law_877 rfl rfl ?_
  refine s_callVI C K hms hmn (u_ask Wm hm km Fm3) hm km (by decide) rfl v_L_120 rfl ⟨rfl, rfl⟩ ⟨Nat.le_of_ble_eq_true rfl, Nat.le_of_ble_eq_true rfl⟩ (Nat.le_of_ble_eq_true rfl) ⟨Nat.le_of_ble_eq_true rfl, Nat.le_of_ble_eq_true rfl⟩ dL_law_878 (st := [.int r1]) rfl (fun r2 I4 J4 h2 I5 J5 e3 e4 => ?_)
  refine t_icmp_eq C (tgt := 1372) (h1.trans h2.symm) dL_law_881 (by decide) ?_
  exact a_wide (Nat.le_of_ble_eq_true rfl) (Nat.le_of_ble_eq_true rfl) (hend I5 J5)
set_option maxRecDepth 100000 in
set_option maxHeartbeats 4000000 in
theorem k_share {p : Program} {l : Launch} {e : Env} {s : State} {m : MethodId} {below : List Frame} {meth : Method} {c : Code} {D : va_G} {cy : Nat → ClassId} {L Lx Lm : List Nat} {κ ln : Nat → Nat} {R : Nat → Nat → Option Nat} {I : Nat → Nat → Int32} {J : Nat → Nat → Int64} {ow : Nat → Nat × Nat} {x mm oo b : Nat} {xs : Nat → Int32} (H : Lc_ p s m c D cy L b 6 xs) (hL : Lq_ L Lx Lm κ ln R ow I x mm) (hend : ∀ (I2 : Nat → Nat → Int32) (J2 : Nat → Nat → Int64), WG p l e room_1 s m #[Value.ref b] below meth c 7 249 11287 (lw_Z below #[Value.ref b] s) D cy (AN_ [] s.heap.size) s.heap L κ ln R I2 J2 1372 [(4, .int 0), (3, .ref oo), (2, .ref mm), (1, .ref x), (0, .ref b)] []) : WG p l e room_1 s m #[Value.ref b] below meth c 7 248 11281 (lw_Z below #[Value.ref b] s) D cy (AN_ [] s.heap.size) s.heap L κ ln R I J 886 [(4, .int 0), (3, .ref oo), (2, .ref mm), (1, .ref x), (0, .ref b)] [] := by
  obtain ⟨C, K, hX, hbl, hbA⟩ := H
  obtain ⟨hxs, hxn, hms, hmn, hdj, Gx, hx, kx, Gm, hm, km⟩ := hL
  have Wx : ∀ a ∈ Lx, Shp Lx κ ln R ow a := fun a ha => (Gx a ha).1
  have Wm : ∀ a ∈ Lm, Shp Lm κ ln R ow a := fun a ha => (Gm a ha).1
  have Fx : Fz_ Lx κ I := fun a ha j => (Gx a ha).2 j
  have Fm : Fz_ Lm κ I := fun a ha j => (Gm a ha).2 j
  refine g_aload_n C 3 dL_law_886 rfl rfl ?_
  refine g_aload_n C 4 dL_law_887 rfl rfl ?_
  refine g_iload C 0 dL_law_888 rfl ?_
  refine g_iconst C (v := 1) dL_law_890 (by decide) ?_
  refine g_iadd C (v := 1) dL_law_891 (by decide) ?_
  refine g_sld C (v := xs 1) hX hbl hbA (by unfold vp_in; decide) (congrArg xs (by decide)) dL_law_892 ?_
  refine g_aload_n C 4 dL_law_893 rfl rfl ?_
  refine g_iload C 0 dL_law_894 rfl ?_
  refine g_iconst C (v := 2) dL_law_896 (by decide) ?_
  refine g_iadd C (v := 2) dL_law_897 (by decide) ?_
  refine g_sld C (v := xs 2) hX hbl hbA (by unfold vp_in; decide) (congrArg xs (by decide)) dL_law_898 ?_
  refine g_aload_n C 4 dL_law_899 rfl rfl ?_
  refine g_iload C 0 dL_law_900 rfl ?_
  refine g_iconst C (v := 3) dL_law_902 (by decide) ?_
  refine g_iadd C (v := 3) dL_law_903 (by decide) ?_
  refine g_sld C (v := xs 3) hX hbl hbA (by unfold vp_in; decide) (congrArg xs (by decide)) dL_law_904 ?_
  refine s_callVI C K hxs hxn (t_share Wx hx kx Fx (xs 1) (xs 2) (xs 3)) hx kx (by decide) rfl v_L_121 rfl ⟨rfl, rfl⟩ ⟨Nat.le_of_ble_eq_true rfl, Nat.le_of_ble_eq_true rfl⟩ (Nat.le_of_ble_eq_true rfl) ⟨Nat.le_of_ble_eq_true rfl, Nat.le_of_ble_eq_true rfl⟩ dL_law_905 (st := []) rfl (fun r1 I2 J2 h1 I3 J3 e1 e2 => ?_)
  have Fm3 : Fz_ Lm κ I3 := fun a ha j => by rw [e2 a (hdj a ha)]; exact Fm a ha j
  refine g_aload_n C 2 dL_law_908 rfl rfl ?_
  refine g_aload_n C 4 dL_law_909 rfl rfl ?_
  refine g_iload C 0 dL_law_910 rfl ?_
  refine g_iconst C (v := 1) dL_law_912 (by decide) ?_
  refine g_iadd C (v := 1) dL_law_913 (by decide) ?_
  refine g_sld C (v := xs 1) hX hbl hbA (by unfold vp_in; decide) (congrArg xs (by decide)) dL_law_914 ?_
  refine g_aload_n C 4 dL_law_915 rfl rfl ?_
  refine g_iload C 0 dL_law_916 rfl ?_
  refine g_iconst C (v := 2) dL_law_918 (by decide) ?_
  refine g_iadd C (v := 2) dL_law_919 (by decide) ?_
  refine g_sld C (v := xs 2) hX hbl hbA (by unfold vp_in; decide) (congrArg xs (by decide)) dL_law_920 ?_
  refine g_aload_n C 4 dL_law_921 rfl rfl ?_
  refine g_iload C 0 dL_law_922 rfl ?_
  refine g_iconst C (v := 3) dL_law_924 (by decide) ?_
  refine g_iadd C (v := 3) dL_law_925 (by decide) ?_
  refine g_sld C (v := xs 3) hX hbl hbA (by unfold vp_in; decide) (congrArg xs (by decide)) dL_law_926 ?_
  refine s_callVI C K hms hmn (u_share Wm hm km Fm3 (xs 1) (xs 2) (xs 3)) hm km (by decide) rfl v_L_124 rfl ⟨rfl, rfl⟩ ⟨Nat.le_of_ble_eq_true rfl, Nat.le_of_ble_eq_true rfl⟩ (Nat.le_of_ble_eq_true rfl) ⟨Nat.le_of_ble_eq_true rfl, Nat.le_of_ble_eq_true rfl⟩ dL_law_927 (st := [.int r1]) rfl (fun r2 I4 J4 h2 I5 J5 e3 e4 => ?_)
  refine t_icmp_eq C (tgt := 1372) (h1.trans h2.symm) dL_law_930 (by decide) ?_
  exact a_wide (Nat.le_of_ble_eq_true rfl) (Nat.le_of_ble_eq_true rfl) (hend I5 J5)
set_option maxRecDepth 100000 in
set_option maxHeartbeats 4000000 in
theorem k_last {p : Program} {l : Launch} {e : Env} {s : State} {m : MethodId} {below : List Frame} {meth : Method} {c : Code} {D : va_G} {cy : Nat → ClassId} {L Lx Lm : List Nat} {κ ln : Nat → Nat} {R : Nat → Nat → Option Nat} {I : Nat → Nat → Int32} {J : Nat → Nat → Int64} {ow : Nat → Nat × Nat} {x mm oo b : Nat} {xs : Nat → Int32} (H : Lc_ p s m c D cy L b 6 xs) (hL : Lq_ L Lx Lm κ ln R ow I x mm) (hend : ∀ (I2 : Nat → Nat → Int32) (J2 : Nat → Nat → Int64), WG p l e room_1 s m #[Value.ref b] below meth c 7 249 11287 (lw_Z below #[Value.ref b] s) D cy (AN_ [] s.heap.size) s.heap L κ ln R I2 J2 1372 [(4, .int 0), (3, .ref oo), (2, .ref mm), (1, .ref x), (0, .ref b)] []) : WG p l e room_1 s m #[Value.ref b] below meth c 7 248 11281 (lw_Z below #[Value.ref b] s) D cy (AN_ [] s.heap.size) s.heap L κ ln R I J 935 [(4, .int 0), (3, .ref oo), (2, .ref mm), (1, .ref x), (0, .ref b)] [] := by
  obtain ⟨C, K, hX, hbl, hbA⟩ := H
  obtain ⟨hxs, hxn, hms, hmn, hdj, Gx, hx, kx, Gm, hm, km⟩ := hL
  have Wx : ∀ a ∈ Lx, Shp Lx κ ln R ow a := fun a ha => (Gx a ha).1
  have Wm : ∀ a ∈ Lm, Shp Lm κ ln R ow a := fun a ha => (Gm a ha).1
  have Fx : Fz_ Lx κ I := fun a ha j => (Gx a ha).2 j
  have Fm : Fz_ Lm κ I := fun a ha j => (Gm a ha).2 j
  refine g_aload_n C 3 dL_law_935 rfl rfl ?_
  refine g_aload_n C 4 dL_law_936 rfl rfl ?_
  refine g_iload C 0 dL_law_937 rfl ?_
  refine g_iconst C (v := 1) dL_law_939 (by decide) ?_
  refine g_iadd C (v := 1) dL_law_940 (by decide) ?_
  refine g_sld C (v := xs 1) hX hbl hbA (by unfold vp_in; decide) (congrArg xs (by decide)) dL_law_941 ?_
  refine s_callVI C K hxs hxn (t_last Wx hx kx Fx (xs 1)) hx kx (by decide) rfl v_L_125 rfl ⟨rfl, rfl⟩ ⟨Nat.le_of_ble_eq_true rfl, Nat.le_of_ble_eq_true rfl⟩ (Nat.le_of_ble_eq_true rfl) ⟨Nat.le_of_ble_eq_true rfl, Nat.le_of_ble_eq_true rfl⟩ dL_law_942 (st := []) rfl (fun r1 I2 J2 h1 I3 J3 e1 e2 => ?_)
  have Fm3 : Fz_ Lm κ I3 := fun a ha j => by rw [e2 a (hdj a ha)]; exact Fm a ha j
  refine g_aload_n C 2 dL_law_945 rfl rfl ?_
  refine g_aload_n C 4 dL_law_946 rfl rfl ?_
  refine g_iload C 0 dL_law_947 rfl ?_
  refine g_iconst C (v := 1) dL_law_949 (by decide) ?_
  refine g_iadd C (v := 1) dL_law_950 (by decide) ?_
  refine g_sld C (v := xs 1) hX hbl hbA (by unfold vp_in; decide) (congrArg xs (by decide)) dL_law_951 ?_
  refine s_callVI C K hms hmn (u_last Wm hm km Fm3 (xs 1)) hm km (by decide) rfl v_L_128 rfl ⟨rfl, rfl⟩ ⟨Nat.le_of_ble_eq_true rfl, Nat.le_of_ble_eq_true rfl⟩ (Nat.le_of_ble_eq_true rfl) ⟨Nat.le_of_ble_eq_true rfl, Nat.le_of_ble_eq_true rfl⟩ dL_law_952 (st := [.int r1]) rfl (fun r2 I4 J4 h2 I5 J5 e3 e4 => ?_)
  refine t_icmp_eq C (tgt := 1372) (h1.trans h2.symm) dL_law_955 (by decide) ?_
  exact a_wide (Nat.le_of_ble_eq_true rfl) (Nat.le_of_ble_eq_true rfl) (hend I5 J5)
set_option maxRecDepth 100000 in
set_option maxHeartbeats 4000000 in
theorem k_seats {p : Program} {l : Launch} {e : Env} {s : State} {m : MethodId} {below : List Frame} {meth : Method} {c : Code} {D : va_G} {cy : Nat → ClassId} {L Lx Lm : List Nat} {κ ln : Nat → Nat} {R : Nat → Nat → Option Nat} {I : Nat → Nat → Int32} {J : Nat → Nat → Int64} {ow : Nat → Nat × Nat} {x mm oo b : Nat} {xs : Nat → Int32} (H : Lc_ p s m c D cy L b 6 xs) (hL : Lq_ L Lx Lm κ ln R ow I x mm) (hend : ∀ (I2 : Nat → Nat → Int32) (J2 : Nat → Nat → Int64), WG p l e room_1 s m #[Value.ref b] below meth c 7 249 11287 (lw_Z below #[Value.ref b] s) D cy (AN_ [] s.heap.size) s.heap L κ ln R I2 J2 1372 [(4, .int 0), (3, .ref oo), (2, .ref mm), (1, .ref x), (0, .ref b)] []) : WG p l e room_1 s m #[Value.ref b] below meth c 7 248 11281 (lw_Z below #[Value.ref b] s) D cy (AN_ [] s.heap.size) s.heap L κ ln R I J 960 [(4, .int 0), (3, .ref oo), (2, .ref mm), (1, .ref x), (0, .ref b)] [] := by
  obtain ⟨C, K, hX, hbl, hbA⟩ := H
  obtain ⟨hxs, hxn, hms, hmn, hdj, Gx, hx, kx, Gm, hm, km⟩ := hL
  have Wx : ∀ a ∈ Lx, Shp Lx κ ln R ow a := fun a ha => (Gx a ha).1
  have Wm : ∀ a ∈ Lm, Shp Lm κ ln R ow a := fun a ha => (Gm a ha).1
  have Fx : Fz_ Lx κ I := fun a ha j => (Gx a ha).2 j
  have Fm : Fz_ Lm κ I := fun a ha j => (Gm a ha).2 j
  refine g_aload_n C 3 dL_law_960 rfl rfl ?_
  refine s_callVI C K hxs hxn (t_seats Wx hx kx Fx) hx kx (by decide) rfl v_L_129 rfl ⟨rfl, rfl⟩ ⟨Nat.le_of_ble_eq_true rfl, Nat.le_of_ble_eq_true rfl⟩ (Nat.le_of_ble_eq_true rfl) ⟨Nat.le_of_ble_eq_true rfl, Nat.le_of_ble_eq_true rfl⟩ dL_law_961 (st := []) rfl (fun r1 I2 J2 h1 I3 J3 e1 e2 => ?_)
  have Fm3 : Fz_ Lm κ I3 := fun a ha j => by rw [e2 a (hdj a ha)]; exact Fm a ha j
  refine g_aload_n C 2 dL_law_964 rfl rfl ?_
  refine s_callVI C K hms hmn (u_seats Wm hm km Fm3) hm km (by decide) rfl v_L_132 rfl ⟨rfl, rfl⟩ ⟨Nat.le_of_ble_eq_true rfl, Nat.le_of_ble_eq_true rfl⟩ (Nat.le_of_ble_eq_true rfl) ⟨Nat.le_of_ble_eq_true rfl, Nat.le_of_ble_eq_true rfl⟩ dL_law_965 (st := [.int r1]) rfl (fun r2 I4 J4 h2 I5 J5 e3 e4 => ?_)
  refine t_icmp_eq C (tgt := 1372) (h1.trans h2.symm) dL_law_968 (by decide) ?_
  exact a_wide (Nat.le_of_ble_eq_true rfl) (Nat.le_of_ble_eq_true rfl) (hend I5 J5)
set_option maxRecDepth 100000 in
set_option maxHeartbeats 4000000 in
theorem k_seatAt {p : Program} {l : Launch} {e : Env} {s : State} {m : MethodId} {below : List Frame} {meth : Method} {c : Code} {D : va_G} {cy : Nat → ClassId} {L Lx Lm : List Nat} {κ ln : Nat → Nat} {R : Nat → Nat → Option Nat} {I : Nat → Nat → Int32} {J : Nat → Nat → Int64} {ow : Nat → Nat × Nat} {x mm oo b : Nat} {xs : Nat → Int32} (H : Lc_ p s m c D cy L b 6 xs) (hL : Lq_ L Lx Lm κ ln R ow I x mm) (hend : ∀ (I2 : Nat → Nat → Int32) (J2 : Nat → Nat → Int64), WG p l e room_1 s m #[Value.ref b] below meth c 7 249 11287 (lw_Z below #[Value.ref b] s) D cy (AN_ [] s.heap.size) s.heap L κ ln R I2 J2 1372 [(4, .int 0), (3, .ref oo), (2, .ref mm), (1, .ref x), (0, .ref b)] []) : WG p l e room_1 s m #[Value.ref b] below meth c 7 248 11281 (lw_Z below #[Value.ref b] s) D cy (AN_ [] s.heap.size) s.heap L κ ln R I J 973 [(4, .int 0), (3, .ref oo), (2, .ref mm), (1, .ref x), (0, .ref b)] [] := by
  obtain ⟨C, K, hX, hbl, hbA⟩ := H
  obtain ⟨hxs, hxn, hms, hmn, hdj, Gx, hx, kx, Gm, hm, km⟩ := hL
  have Wx : ∀ a ∈ Lx, Shp Lx κ ln R ow a := fun a ha => (Gx a ha).1
  have Wm : ∀ a ∈ Lm, Shp Lm κ ln R ow a := fun a ha => (Gm a ha).1
  have Fx : Fz_ Lx κ I := fun a ha j => (Gx a ha).2 j
  have Fm : Fz_ Lm κ I := fun a ha j => (Gm a ha).2 j
  refine g_aload_n C 3 dL_law_973 rfl rfl ?_
  refine g_aload_n C 4 dL_law_974 rfl rfl ?_
  refine g_iload C 0 dL_law_975 rfl ?_
  refine g_iconst C (v := 1) dL_law_977 (by decide) ?_
  refine g_iadd C (v := 1) dL_law_978 (by decide) ?_
  refine g_sld C (v := xs 1) hX hbl hbA (by unfold vp_in; decide) (congrArg xs (by decide)) dL_law_979 ?_
  refine s_callVI C K hxs hxn (t_seatAt Wx hx kx Fx (xs 1)) hx kx (by decide) rfl v_L_133 rfl ⟨rfl, rfl⟩ ⟨Nat.le_of_ble_eq_true rfl, Nat.le_of_ble_eq_true rfl⟩ (Nat.le_of_ble_eq_true rfl) ⟨Nat.le_of_ble_eq_true rfl, Nat.le_of_ble_eq_true rfl⟩ dL_law_980 (st := []) rfl (fun r1 I2 J2 h1 I3 J3 e1 e2 => ?_)
  have Fm3 : Fz_ Lm κ I3 := fun a ha j => by rw [e2 a (hdj a ha)]; exact Fm a ha j
  refine g_aload_n C 2 dL_law_983 rfl rfl ?_
  refine g_aload_n C 4 dL_law_984 rfl rfl ?_
  refine g_iload C 0 dL_law_985 rfl ?_
  refine g_iconst C (v := 1) dL_law_987 (by decide) ?_
  refine g_iadd C (v := 1) dL_law_988 (by decide) ?_
  refine g_sld C (v := xs 1) hX hbl hbA (by unfold vp_in; decide) (congrArg xs (by decide)) dL_law_989 ?_
  refine s_callVI C K hms hmn (u_seatAt Wm hm km Fm3 (xs 1)) hm km (by decide) rfl v_L_136 rfl ⟨rfl, rfl⟩ ⟨Nat.le_of_ble_eq_true rfl, Nat.le_of_ble_eq_true rfl⟩ (Nat.le_of_ble_eq_true rfl) ⟨Nat.le_of_ble_eq_true rfl, Nat.le_of_ble_eq_true rfl⟩ dL_law_990 (st := [.int r1]) rfl (fun r2 I4 J4 h2 I5 J5 e3 e4 => ?_)
  refine t_icmp_eq C (tgt := 1372) (h1.trans h2.symm) dL_law_993 (by decide) ?_
  exact a_wide (Nat.le_of_ble_eq_true rfl) (Nat.le_of_ble_eq_true rfl) (hend I5 J5)
set_option maxRecDepth 100000 in
set_option maxHeartbeats 4000000 in
theorem k_left {p : Program} {l : Launch} {e : Env} {s : State} {m : MethodId} {below : List Frame} {meth : Method} {c : Code} {D : va_G} {cy : Nat → ClassId} {L Lx Lm : List Nat} {κ ln : Nat → Nat} {R : Nat → Nat → Option Nat} {I : Nat → Nat → Int32} {J : Nat → Nat → Int64} {ow : Nat → Nat × Nat} {x mm oo b : Nat} {xs : Nat → Int32} (H : Lc_ p s m c D cy L b 6 xs) (hL : Lq_ L Lx Lm κ ln R ow I x mm) (hend : ∀ (I2 : Nat → Nat → Int32) (J2 : Nat → Nat → Int64), WG p l e room_1 s m #[Value.ref b] below meth c 7 249 11287 (lw_Z below #[Value.ref b] s) D cy (AN_ [] s.heap.size) s.heap L κ ln R I2 J2 1372 [(4, .int 0), (3, .ref oo), (2, .ref mm), (1, .ref x), (0, .ref b)] []) : WG p l e room_1 s m #[Value.ref b] below meth c 7 248 11281 (lw_Z below #[Value.ref b] s) D cy (AN_ [] s.heap.size) s.heap L κ ln R I J 998 [(4, .int 0), (3, .ref oo), (2, .ref mm), (1, .ref x), (0, .ref b)] [] := by
  obtain ⟨C, K, hX, hbl, hbA⟩ := H
  obtain ⟨hxs, hxn, hms, hmn, hdj, Gx, hx, kx, Gm, hm, km⟩ := hL
  have Wx : ∀ a ∈ Lx, Shp Lx κ ln R ow a := fun a ha => (Gx a ha).1
  have Wm : ∀ a ∈ Lm, Shp Lm κ ln R ow a := fun a ha => (Gm a ha).1
  have Fx : Fz_ Lx κ I := fun a ha j => (Gx a ha).2 j
  have Fm : Fz_ Lm κ I := fun a ha j => (Gm a ha).2 j
  refine g_aload_n C 3 dL_law_998 rfl rfl ?_
  refine g_aload_n C 4 dL_law_999 rfl rfl ?_
  refine g_iload C 0 dL_law_1000 rfl ?_
  refine g_iconst C (v := 1) dL_law_1002 (by decide) ?_
  refine g_iadd C (v := 1) dL_law_1003 (by decide) ?_
  refine g_sld C (v := xs 1) hX hbl hbA (by unfold vp_in; decide) (congrArg xs (by decide)) dL_law_1004 ?_
  refine s_callVI C K hxs hxn (t_left Wx hx kx Fx (xs 1)) hx kx (by decide) rfl v_L_137 rfl ⟨rfl, rfl⟩ ⟨Nat.le_of_ble_eq_true rfl, Nat.le_of_ble_eq_true rfl⟩ (Nat.le_of_ble_eq_true rfl) ⟨Nat.le_of_ble_eq_true rfl, Nat.le_of_ble_eq_true rfl⟩ dL_law_1005 (st := []) rfl (fun r1 I2 J2 h1 I3 J3 e1 e2 => ?_)
  have Fm3 : Fz_ Lm κ I3 := fun a ha j => by rw [e2 a (hdj a ha)]; exact Fm a ha j
  refine g_aload_n C 2 dL_law_1008 rfl rfl ?_
  refine g_aload_n C 4 dL_law_1009 rfl rfl ?_
  refine g_iload C 0 dL_law_1010 rfl ?_
  refine g_iconst C (v := 1) dL_law_1012 (by decide) ?_
  refine g_iadd C (v := 1) dL_law_1013 (by decide) ?_
  refine g_sld C (v := xs 1) hX hbl hbA (by unfold vp_in; decide) (congrArg xs (by decide)) dL_law_1014 ?_
  refine s_callVI C K hms hmn (u_left Wm hm km Fm3 (xs 1)) hm km (by decide) rfl v_L_140 rfl ⟨rfl, rfl⟩ ⟨Nat.le_of_ble_eq_true rfl, Nat.le_of_ble_eq_true rfl⟩ (Nat.le_of_ble_eq_true rfl) ⟨Nat.le_of_ble_eq_true rfl, Nat.le_of_ble_eq_true rfl⟩ dL_law_1015 (st := [.int r1]) rfl (fun r2 I4 J4 h2 I5 J5 e3 e4 => ?_)
  refine t_icmp_eq C (tgt := 1372) (h1.trans h2.symm) dL_law_1018 (by decide) ?_
  exact a_wide (Nat.le_of_ble_eq_true rfl) (Nat.le_of_ble_eq_true rfl) (hend I5 J5)
set_option maxRecDepth 100000 in
set_option maxHeartbeats 4000000 in
theorem k_kin {p : Program} {l : Launch} {e : Env} {s : State} {m : MethodId} {below : List Frame} {meth : Method} {c : Code} {D : va_G} {cy : Nat → ClassId} {L Lx Lm : List Nat} {κ ln : Nat → Nat} {R : Nat → Nat → Option Nat} {I : Nat → Nat → Int32} {J : Nat → Nat → Int64} {ow : Nat → Nat × Nat} {x mm oo b : Nat} {xs : Nat → Int32} (H : Lc_ p s m c D cy L b 6 xs) (hL : Lq_ L Lx Lm κ ln R ow I x mm) (hend : ∀ (I2 : Nat → Nat → Int32) (J2 : Nat → Nat → Int64), WG p l e room_1 s m #[Value.ref b] below meth c 7 249 11287 (lw_Z below #[Value.ref b] s) D cy (AN_ [] s.heap.size) s.heap L κ ln R I2 J2 1372 [(4, .int 0), (3, .ref oo), (2, .ref mm), (1, .ref x), (0, .ref b)] []) : WG p l e room_1 s m #[Value.ref b] below meth c 7 248 11281 (lw_Z below #[Value.ref b] s) D cy (AN_ [] s.heap.size) s.heap L κ ln R I J 1023 [(4, .int 0), (3, .ref oo), (2, .ref mm), (1, .ref x), (0, .ref b)] [] := by
  obtain ⟨C, K, hX, hbl, hbA⟩ := H
  obtain ⟨hxs, hxn, hms, hmn, hdj, Gx, hx, kx, Gm, hm, km⟩ := hL
  have Wx : ∀ a ∈ Lx, Shp Lx κ ln R ow a := fun a ha => (Gx a ha).1
  have Wm : ∀ a ∈ Lm, Shp Lm κ ln R ow a := fun a ha => (Gm a ha).1
  have Fx : Fz_ Lx κ I := fun a ha j => (Gx a ha).2 j
  have Fm : Fz_ Lm κ I := fun a ha j => (Gm a ha).2 j
  refine g_aload_n C 3 dL_law_1023 rfl rfl ?_
  refine g_aload_n C 4 dL_law_1024 rfl rfl ?_
  refine g_iload C 0 dL_law_1025 rfl ?_
  refine g_iconst C (v := 1) dL_law_1027 (by decide) ?_
  refine g_iadd C (v := 1) dL_law_1028 (by decide) ?_
  refine g_sld C (v := xs 1) hX hbl hbA (by unfold vp_in; decide) (congrArg xs (by decide)) dL_law_1029 ?_
  refine g_aload_n C 4 dL_law_1030 rfl rfl ?_
  refine g_iload C 0 dL_law_1031 rfl ?_
  refine g_iconst C (v := 2) dL_law_1033 (by decide) ?_
  refine g_iadd C (v := 2) dL_law_1034 (by decide) ?_
  refine g_sld C (v := xs 2) hX hbl hbA (by unfold vp_in; decide) (congrArg xs (by decide)) dL_law_1035 ?_
  refine s_callVI C K hxs hxn (t_kin Wx hx kx Fx (xs 1) (xs 2)) hx kx (by decide) rfl v_L_141 rfl ⟨rfl, rfl⟩ ⟨Nat.le_of_ble_eq_true rfl, Nat.le_of_ble_eq_true rfl⟩ (Nat.le_of_ble_eq_true rfl) ⟨Nat.le_of_ble_eq_true rfl, Nat.le_of_ble_eq_true rfl⟩ dL_law_1036 (st := []) rfl (fun r1 I2 J2 h1 I3 J3 e1 e2 => ?_)
  have Fm3 : Fz_ Lm κ I3 := fun a ha j => by rw [e2 a (hdj a ha)]; exact Fm a ha j
  refine g_aload_n C 2 dL_law_1039 rfl rfl ?_
  refine g_aload_n C 4 dL_law_1040 rfl rfl ?_
  refine g_iload C 0 dL_law_1041 rfl ?_
  refine g_iconst C (v := 1) dL_law_1043 (by decide) ?_
  refine g_iadd C (v := 1) dL_law_1044 (by decide) ?_
  refine g_sld C (v := xs 1) hX hbl hbA (by unfold vp_in; decide) (congrArg xs (by decide)) dL_law_1045 ?_
  refine g_aload_n C 4 dL_law_1046 rfl rfl ?_
  refine g_iload C 0 dL_law_1047 rfl ?_
  refine g_iconst C (v := 2) dL_law_1049 (by decide) ?_
  refine g_iadd C (v := 2) dL_law_1050 (by decide) ?_
  refine g_sld C (v := xs 2) hX hbl hbA (by unfold vp_in; decide) (congrArg xs (by decide)) dL_law_1051 ?_
  refine s_callVI C K hms hmn (u_kin Wm hm km Fm3 (xs 1) (xs 2)) hm km (by decide) rfl v_L_144 rfl ⟨rfl, rfl⟩ ⟨Nat.le_of_ble_eq_true rfl, Nat.le_of_ble_eq_true rfl⟩ (Nat.le_of_ble_eq_true rfl) ⟨Nat.le_of_ble_eq_true rfl, Nat.le_of_ble_eq_true rfl⟩ dL_law_1052 (st := [.int r1]) rfl (fun r2 I4 J4 h2 I5 J5 e3 e4 => ?_)
  refine t_icmp_eq C (tgt := 1372) (h1.trans h2.symm) dL_law_1055 (by decide) ?_
  exact a_wide (Nat.le_of_ble_eq_true rfl) (Nat.le_of_ble_eq_true rfl) (hend I5 J5)
set_option maxRecDepth 100000 in
set_option maxHeartbeats 4000000 in
theorem k_hungriest {p : Program} {l : Launch} {e : Env} {s : State} {m : MethodId} {below : List Frame} {meth : Method} {c : Code} {D : va_G} {cy : Nat → ClassId} {L Lx Lm : List Nat} {κ ln : Nat → Nat} {R : Nat → Nat → Option Nat} {I : Nat → Nat → Int32} {J : Nat → Nat → Int64} {ow : Nat → Nat × Nat} {x mm oo b : Nat} {xs : Nat → Int32} (H : Lc_ p s m c D cy L b 6 xs) (hL : Lq_ L Lx Lm κ ln R ow I x mm) (hend : ∀ (I2 : Nat → Nat → Int32) (J2 : Nat → Nat → Int64), WG p l e room_1 s m #[Value.ref b] below meth c 7 249 11287 (lw_Z below #[Value.ref b] s) D cy (AN_ [] s.heap.size) s.heap L κ ln R I2 J2 1372 [(4, .int 0), (3, .ref oo), (2, .ref mm), (1, .ref x), (0, .ref b)] []) : WG p l e room_1 s m #[Value.ref b] below meth c 7 248 11281 (lw_Z below #[Value.ref b] s) D cy (AN_ [] s.heap.size) s.heap L κ ln R I J 1060 [(4, .int 0), (3, .ref oo), (2, .ref mm), (1, .ref x), (0, .ref b)] [] := by
  obtain ⟨C, K, hX, hbl, hbA⟩ := H
  obtain ⟨hxs, hxn, hms, hmn, hdj, Gx, hx, kx, Gm, hm, km⟩ := hL
  have Wx : ∀ a ∈ Lx, Shp Lx κ ln R ow a := fun a ha => (Gx a ha).1
  have Wm : ∀ a ∈ Lm, Shp Lm κ ln R ow a := fun a ha => (Gm a ha).1
  have Fx : Fz_ Lx κ I := fun a ha j => (Gx a ha).2 j
  have Fm : Fz_ Lm κ I := fun a ha j => (Gm a ha).2 j
  refine g_aload_n C 3 dL_law_1060 rfl rfl ?_
  refine s_callVI C K hxs hxn (t_hungriest Wx hx kx Fx) hx kx (by decide) rfl v_L_145 rfl ⟨rfl, rfl⟩ ⟨Nat.le_of_ble_eq_true rfl, Nat.le_of_ble_eq_true rfl⟩ (Nat.le_of_ble_eq_true rfl) ⟨Nat.le_of_ble_eq_true rfl, Nat.le_of_ble_eq_true rfl⟩ dL_law_1061 (st := []) rfl (fun r1 I2 J2 h1 I3 J3 e1 e2 => ?_)
  have Fm3 : Fz_ Lm κ I3 := fun a ha j => by rw [e2 a (hdj a ha)]; exact Fm a ha j
  refine g_aload_n C 2 dL_law_1064 rfl rfl ?_
  refine s_callVI C K hms hmn (u_hungriest Wm hm km Fm3) hm km (by decide) rfl v_L_148 rfl ⟨rfl, rfl⟩ ⟨Nat.le_of_ble_eq_true rfl, Nat.le_of_ble_eq_true rfl⟩ (Nat.le_of_ble_eq_true rfl) ⟨Nat.le_of_ble_eq_true rfl, Nat.le_of_ble_eq_true rfl⟩ dL_law_1065 (st := [.int r1]) rfl (fun r2 I4 J4 h2 I5 J5 e3 e4 => ?_)
  refine t_icmp_eq C (tgt := 1372) (h1.trans h2.symm) dL_law_1068 (by decide) ?_
  exact a_wide (Nat.le_of_ble_eq_true rfl) (Nat.le_of_ble_eq_true rfl) (hend I5 J5)
set_option maxRecDepth 100000 in
set_option maxHeartbeats 4000000 in
theorem k_will {p : Program} {l : Launch} {e : Env} {s : State} {m : MethodId} {below : List Frame} {meth : Method} {c : Code} {D : va_G} {cy : Nat → ClassId} {L Lx Lm : List Nat} {κ ln : Nat → Nat} {R : Nat → Nat → Option Nat} {I : Nat → Nat → Int32} {J : Nat → Nat → Int64} {ow : Nat → Nat × Nat} {x mm oo b : Nat} {xs : Nat → Int32} (H : Lc_ p s m c D cy L b 6 xs) (hL : Lq_ L Lx Lm κ ln R ow I x mm) (hend : ∀ (I2 : Nat → Nat → Int32) (J2 : Nat → Nat → Int64), WG p l e room_1 s m #[Value.ref b] below meth c 7 249 11287 (lw_Z below #[Value.ref b] s) D cy (AN_ [] s.heap.size) s.heap L κ ln R I2 J2 1372 [(4, .int 0), (3, .ref oo), (2, .ref mm), (1, .ref x), (0, .ref b)] []) : WG p l e room_1 s m #[Value.ref b] below meth c 7 248 11281 (lw_Z below #[Value.ref b] s) D cy (AN_ [] s.heap.size) s.heap L κ ln R I J 1073 [(4, .int 0), (3, .ref oo), (2, .ref mm), (1, .ref x), (0, .ref b)] [] := by
  obtain ⟨C, K, hX, hbl, hbA⟩ := H
  obtain ⟨hxs, hxn, hms, hmn, hdj, Gx, hx, kx, Gm, hm, km⟩ := hL
  have Wx : ∀ a ∈ Lx, Shp Lx κ ln R ow a := fun a ha => (Gx a ha).1
  have Wm : ∀ a ∈ Lm, Shp Lm κ ln R ow a := fun a ha => (Gm a ha).1
  have Fx : Fz_ Lx κ I := fun a ha j => (Gx a ha).2 j
  have Fm : Fz_ Lm κ I := fun a ha j => (Gm a ha).2 j
  refine g_aload_n C 3 dL_law_1073 rfl rfl ?_
  refine g_aload_n C 4 dL_law_1074 rfl rfl ?_
  refine g_iload C 0 dL_law_1075 rfl ?_
  refine g_iconst C (v := 1) dL_law_1077 (by decide) ?_
  refine g_iadd C (v := 1) dL_law_1078 (by decide) ?_
  refine g_sld C (v := xs 1) hX hbl hbA (by unfold vp_in; decide) (congrArg xs (by decide)) dL_law_1079 ?_
  refine s_callVI C K hxs hxn (t_will Wx hx kx Fx (xs 1)) hx kx (by decide) rfl v_L_149 rfl ⟨rfl, rfl⟩ ⟨Nat.le_of_ble_eq_true rfl, Nat.le_of_ble_eq_true rfl⟩ (Nat.le_of_ble_eq_true rfl) ⟨Nat.le_of_ble_eq_true rfl, Nat.le_of_ble_eq_true rfl⟩ dL_law_1080 (st := []) rfl (fun r1 I2 J2 h1 I3 J3 e1 e2 => ?_)
  have Fm3 : Fz_ Lm κ I3 := fun a ha j => by rw [e2 a (hdj a ha)]; exact Fm a ha j
  refine g_aload_n C 2 dL_law_1083 rfl rfl ?_
  refine g_aload_n C 4 dL_law_1084 rfl rfl ?_
  refine g_iload C 0 dL_law_1085 rfl ?_
  refine g_iconst C (v := 1) dL_law_1087 (by decide) ?_
  refine g_iadd C (v := 1) dL_law_1088 (by decide) ?_
  refine g_sld C (v := xs 1) hX hbl hbA (by unfold vp_in; decide) (congrArg xs (by decide)) dL_law_1089 ?_
  refine s_callVI C K hms hmn (u_will Wm hm km Fm3 (xs 1)) hm km (by decide) rfl v_L_152 rfl ⟨rfl, rfl⟩ ⟨Nat.le_of_ble_eq_true rfl, Nat.le_of_ble_eq_true rfl⟩ (Nat.le_of_ble_eq_true rfl) ⟨Nat.le_of_ble_eq_true rfl, Nat.le_of_ble_eq_true rfl⟩ dL_law_1090 (st := [.int r1]) rfl (fun r2 I4 J4 h2 I5 J5 e3 e4 => ?_)
  refine t_icmp_eq C (tgt := 1372) (h1.trans h2.symm) dL_law_1093 (by decide) ?_
  exact a_wide (Nat.le_of_ble_eq_true rfl) (Nat.le_of_ble_eq_true rfl) (hend I5 J5)
set_option maxRecDepth 100000 in
set_option maxHeartbeats 4000000 in
theorem k_byteAt {p : Program} {l : Launch} {e : Env} {s : State} {m : MethodId} {below : List Frame} {meth : Method} {c : Code} {D : va_G} {cy : Nat → ClassId} {L Lx Lm : List Nat} {κ ln : Nat → Nat} {R : Nat → Nat → Option Nat} {I : Nat → Nat → Int32} {J : Nat → Nat → Int64} {ow : Nat → Nat × Nat} {x mm oo b : Nat} {xs : Nat → Int32} (H : Lc_ p s m c D cy L b 6 xs) (hL : Lq_ L Lx Lm κ ln R ow I x mm) (hend : ∀ (I2 : Nat → Nat → Int32) (J2 : Nat → Nat → Int64), WG p l e room_1 s m #[Value.ref b] below meth c 7 249 11287 (lw_Z below #[Value.ref b] s) D cy (AN_ [] s.heap.size) s.heap L κ ln R I2 J2 1372 [(4, .int 0), (3, .ref oo), (2, .ref mm), (1, .ref x), (0, .ref b)] []) : WG p l e room_1 s m #[Value.ref b] below meth c 7 248 11281 (lw_Z below #[Value.ref b] s) D cy (AN_ [] s.heap.size) s.heap L κ ln R I J 1098 [(4, .int 0), (3, .ref oo), (2, .ref mm), (1, .ref x), (0, .ref b)] [] := by
  obtain ⟨C, K, hX, hbl, hbA⟩ := H
  obtain ⟨hxs, hxn, hms, hmn, hdj, Gx, hx, kx, Gm, hm, km⟩ := hL
  have Wx : ∀ a ∈ Lx, Shp Lx κ ln R ow a := fun a ha => (Gx a ha).1
  have Wm : ∀ a ∈ Lm, Shp Lm κ ln R ow a := fun a ha => (Gm a ha).1
  have Fx : Fz_ Lx κ I := fun a ha j => (Gx a ha).2 j
  have Fm : Fz_ Lm κ I := fun a ha j => (Gm a ha).2 j
  refine g_aload_n C 3 dL_law_1098 rfl rfl ?_
  refine g_aload_n C 4 dL_law_1099 rfl rfl ?_
  refine g_iload C 0 dL_law_1100 rfl ?_
  refine g_iconst C (v := 1) dL_law_1102 (by decide) ?_
  refine g_iadd C (v := 1) dL_law_1103 (by decide) ?_
  refine g_sld C (v := xs 1) hX hbl hbA (by unfold vp_in; decide) (congrArg xs (by decide)) dL_law_1104 ?_
  refine s_callVI C K hxs hxn (t_byteAt Wx hx kx Fx (xs 1)) hx kx (by decide) rfl v_L_153 rfl ⟨rfl, rfl⟩ ⟨Nat.le_of_ble_eq_true rfl, Nat.le_of_ble_eq_true rfl⟩ (Nat.le_of_ble_eq_true rfl) ⟨Nat.le_of_ble_eq_true rfl, Nat.le_of_ble_eq_true rfl⟩ dL_law_1105 (st := []) rfl (fun r1 I2 J2 h1 I3 J3 e1 e2 => ?_)
  have Fm3 : Fz_ Lm κ I3 := fun a ha j => by rw [e2 a (hdj a ha)]; exact Fm a ha j
  refine g_aload_n C 2 dL_law_1108 rfl rfl ?_
  refine g_aload_n C 4 dL_law_1109 rfl rfl ?_
  refine g_iload C 0 dL_law_1110 rfl ?_
  refine g_iconst C (v := 1) dL_law_1112 (by decide) ?_
  refine g_iadd C (v := 1) dL_law_1113 (by decide) ?_
  refine g_sld C (v := xs 1) hX hbl hbA (by unfold vp_in; decide) (congrArg xs (by decide)) dL_law_1114 ?_
  refine s_callVI C K hms hmn (u_byteAt Wm hm km Fm3 (xs 1)) hm km (by decide) rfl v_L_156 rfl ⟨rfl, rfl⟩ ⟨Nat.le_of_ble_eq_true rfl, Nat.le_of_ble_eq_true rfl⟩ (Nat.le_of_ble_eq_true rfl) ⟨Nat.le_of_ble_eq_true rfl, Nat.le_of_ble_eq_true rfl⟩ dL_law_1115 (st := [.int r1]) rfl (fun r2 I4 J4 h2 I5 J5 e3 e4 => ?_)
  refine t_icmp_eq C (tgt := 1372) (h1.trans h2.symm) dL_law_1118 (by decide) ?_
  exact a_wide (Nat.le_of_ble_eq_true rfl) (Nat.le_of_ble_eq_true rfl) (hend I5 J5)
set_option maxRecDepth 100000 in
set_option maxHeartbeats 4000000 in
theorem k_drawn {p : Program} {l : Launch} {e : Env} {s : State} {m : MethodId} {below : List Frame} {meth : Method} {c : Code} {D : va_G} {cy : Nat → ClassId} {L Lx Lm : List Nat} {κ ln : Nat → Nat} {R : Nat → Nat → Option Nat} {I : Nat → Nat → Int32} {J : Nat → Nat → Int64} {ow : Nat → Nat × Nat} {x mm oo b : Nat} {xs : Nat → Int32} (H : Lc_ p s m c D cy L b 6 xs) (hL : Lq_ L Lx Lm κ ln R ow I x mm) (hend : ∀ (I2 : Nat → Nat → Int32) (J2 : Nat → Nat → Int64), WG p l e room_1 s m #[Value.ref b] below meth c 7 249 11287 (lw_Z below #[Value.ref b] s) D cy (AN_ [] s.heap.size) s.heap L κ ln R I2 J2 1372 [(4, .int 0), (3, .ref oo), (2, .ref mm), (1, .ref x), (0, .ref b)] []) : WG p l e room_1 s m #[Value.ref b] below meth c 7 248 11281 (lw_Z below #[Value.ref b] s) D cy (AN_ [] s.heap.size) s.heap L κ ln R I J 1123 [(4, .int 0), (3, .ref oo), (2, .ref mm), (1, .ref x), (0, .ref b)] [] := by
  obtain ⟨C, K, hX, hbl, hbA⟩ := H
  obtain ⟨hxs, hxn, hms, hmn, hdj, Gx, hx, kx, Gm, hm, km⟩ := hL
  have Wx : ∀ a ∈ Lx, Shp Lx κ ln R ow a := fun a ha => (Gx a ha).1
  have Wm : ∀ a ∈ Lm, Shp Lm κ ln R ow a := fun a ha => (Gm a ha).1
  have Fx : Fz_ Lx κ I := fun a ha j => (Gx a ha).2 j
  have Fm : Fz_ Lm κ I := fun a ha j => (Gm a ha).2 j
  refine g_aload_n C 3 dL_law_1123 rfl rfl ?_
  refine g_aload_n C 4 dL_law_1124 rfl rfl ?_
  refine g_iload C 0 dL_law_1125 rfl ?_
  refine g_iconst C (v := 1) dL_law_1127 (by decide) ?_
  refine g_iadd C (v := 1) dL_law_1128 (by decide) ?_
  refine g_sld C (v := xs 1) hX hbl hbA (by unfold vp_in; decide) (congrArg xs (by decide)) dL_law_1129 ?_
  refine g_aload_n C 4 dL_law_1130 rfl rfl ?_
  refine g_iload C 0 dL_law_1131 rfl ?_
  refine g_iconst C (v := 2) dL_law_1133 (by decide) ?_
  refine g_iadd C (v := 2) dL_law_1134 (by decide) ?_
  refine g_sld C (v := xs 2) hX hbl hbA (by unfold vp_in; decide) (congrArg xs (by decide)) dL_law_1135 ?_
  refine s_callVI C K hxs hxn (t_drawn Wx hx kx Fx (xs 1) (xs 2)) hx kx (by decide) rfl v_L_157 rfl ⟨rfl, rfl⟩ ⟨Nat.le_of_ble_eq_true rfl, Nat.le_of_ble_eq_true rfl⟩ (Nat.le_of_ble_eq_true rfl) ⟨Nat.le_of_ble_eq_true rfl, Nat.le_of_ble_eq_true rfl⟩ dL_law_1136 (st := []) rfl (fun r1 I2 J2 h1 I3 J3 e1 e2 => ?_)
  have Fm3 : Fz_ Lm κ I3 := fun a ha j => by rw [e2 a (hdj a ha)]; exact Fm a ha j
  refine g_aload_n C 2 dL_law_1139 rfl rfl ?_
  refine g_aload_n C 4 dL_law_1140 rfl rfl ?_
  refine g_iload C 0 dL_law_1141 rfl ?_
  refine g_iconst C (v := 1) dL_law_1143 (by decide) ?_
  refine g_iadd C (v := 1) dL_law_1144 (by decide) ?_
  refine g_sld C (v := xs 1) hX hbl hbA (by unfold vp_in; decide) (congrArg xs (by decide)) dL_law_1145 ?_
  refine g_aload_n C 4 dL_law_1146 rfl rfl ?_
  refine g_iload C 0 dL_law_1147 rfl ?_
  refine g_iconst C (v := 2) dL_law_1149 (by decide) ?_
  refine g_iadd C (v := 2) dL_law_1150 (by decide) ?_
  refine g_sld C (v := xs 2) hX hbl hbA (by unfold vp_in; decide) (congrArg xs (by decide)) dL_law_1151 ?_
  refine s_callVI C K hms hmn (u_drawn Wm hm km Fm3 (xs 1) (xs 2)) hm km (by decide) rfl v_L_160 rfl ⟨rfl, rfl⟩ ⟨Nat.le_of_ble_eq_true rfl, Nat.le_of_ble_eq_true rfl⟩ (Nat.le_of_ble_eq_true rfl) ⟨Nat.le_of_ble_eq_true rfl, Nat.le_of_ble_eq_true rfl⟩ dL_law_1152 (st := [.int r1]) rfl (fun r2 I4 J4 h2 I5 J5 e3 e4 => ?_)
  refine t_icmp_eq C (tgt := 1372) (h1.trans h2.symm) dL_law_1155 (by decide) ?_
  exact a_wide (Nat.le_of_ble_eq_true rfl) (Nat.le_of_ble_eq_true rfl) (hend I5 J5)
set_option maxRecDepth 100000 in
set_option maxHeartbeats 4000000 in
theorem k_odds {p : Program} {l : Launch} {e : Env} {s : State} {m : MethodId} {below : List Frame} {meth : Method} {c : Code} {D : va_G} {cy : Nat → ClassId} {L Lx Lm : List Nat} {κ ln : Nat → Nat} {R : Nat → Nat → Option Nat} {I : Nat → Nat → Int32} {J : Nat → Nat → Int64} {ow : Nat → Nat × Nat} {x mm oo b : Nat} {xs : Nat → Int32} (H : Lc_ p s m c D cy L b 6 xs) (hL : Lq_ L Lx Lm κ ln R ow I x mm) (hend : ∀ (I2 : Nat → Nat → Int32) (J2 : Nat → Nat → Int64), WG p l e room_1 s m #[Value.ref b] below meth c 7 249 11287 (lw_Z below #[Value.ref b] s) D cy (AN_ [] s.heap.size) s.heap L κ ln R I2 J2 1372 [(4, .int 0), (3, .ref oo), (2, .ref mm), (1, .ref x), (0, .ref b)] []) : WG p l e room_1 s m #[Value.ref b] below meth c 7 248 11281 (lw_Z below #[Value.ref b] s) D cy (AN_ [] s.heap.size) s.heap L κ ln R I J 1160 [(4, .int 0), (3, .ref oo), (2, .ref mm), (1, .ref x), (0, .ref b)] [] := by
  obtain ⟨C, K, hX, hbl, hbA⟩ := H
  obtain ⟨hxs, hxn, hms, hmn, hdj, Gx, hx, kx, Gm, hm, km⟩ := hL
  have Wx : ∀ a ∈ Lx, Shp Lx κ ln R ow a := fun a ha => (Gx a ha).1
  have Wm : ∀ a ∈ Lm, Shp Lm κ ln R ow a := fun a ha => (Gm a ha).1
  have Fx : Fz_ Lx κ I := fun a ha j => (Gx a ha).2 j
  have Fm : Fz_ Lm κ I := fun a ha j => (Gm a ha).2 j
  refine g_aload_n C 3 dL_law_1160 rfl rfl ?_
  refine g_aload_n C 4 dL_law_1161 rfl rfl ?_
  refine g_iload C 0 dL_law_1162 rfl ?_
  refine g_iconst C (v := 1) dL_law_1164 (by decide) ?_
  refine g_iadd C (v := 1) dL_law_1165 (by decide) ?_
  refine g_sld C (v := xs 1) hX hbl hbA (by unfold vp_in; decide) (congrArg xs (by decide)) dL_law_1166 ?_
  refine g_aload_n C 4 dL_law_1167 rfl rfl ?_
  refine g_iload C 0 dL_law_1168 rfl ?_
  refine g_iconst C (v := 2) dL_law_1170 (by decide) ?_
  refine g_iadd C (v := 2) dL_law_1171 (by decide) ?_
  refine g_sld C (v := xs 2) hX hbl hbA (by unfold vp_in; decide) (congrArg xs (by decide)) dL_law_1172 ?_
  refine g_aload_n C 4 dL_law_1173 rfl rfl ?_
  refine g_iload C 0 dL_law_1174 rfl ?_
  refine g_iconst C (v := 3) dL_law_1176 (by decide) ?_
  refine g_iadd C (v := 3) dL_law_1177 (by decide) ?_
  refine g_sld C (v := xs 3) hX hbl hbA (by unfold vp_in; decide) (congrArg xs (by decide)) dL_law_1178 ?_
  refine s_callVI C K hxs hxn (t_odds Wx hx kx Fx (xs 1) (xs 2) (xs 3)) hx kx (by decide) rfl v_L_161 rfl ⟨rfl, rfl⟩ ⟨Nat.le_of_ble_eq_true rfl, Nat.le_of_ble_eq_true rfl⟩ (Nat.le_of_ble_eq_true rfl) ⟨Nat.le_of_ble_eq_true rfl, Nat.le_of_ble_eq_true rfl⟩ dL_law_1179 (st := []) rfl (fun r1 I2 J2 h1 I3 J3 e1 e2 => ?_)
  have Fm3 : Fz_ Lm κ I3 := fun a ha j => by rw [e2 a (hdj a ha)]; exact Fm a ha j
  refine g_aload_n C 2 dL_law_1182 rfl rfl ?_
  refine g_aload_n C 4 dL_law_1183 rfl rfl ?_
  refine g_iload C 0 dL_law_1184 rfl ?_
  refine g_iconst C (v := 1) dL_law_1186 (by decide) ?_
  refine g_iadd C (v := 1) dL_law_1187 (by decide) ?_
  refine g_sld C (v := xs 1) hX hbl hbA (by unfold vp_in; decide) (congrArg xs (by decide)) dL_law_1188 ?_
  refine g_aload_n C 4 dL_law_1189 rfl rfl ?_
  refine g_iload C 0 dL_law_1190 rfl ?_
  refine g_iconst C (v := 2) dL_law_1192 (by decide) ?_
  refine g_iadd C (v := 2) dL_law_1193 (by decide) ?_
  refine g_sld C (v := xs 2) hX hbl hbA (by unfold vp_in; decide) (congrArg xs (by decide)) dL_law_1194 ?_
  refine g_aload_n C 4 dL_law_1195 rfl rfl ?_
  refine g_iload C 0 dL_law_1196 rfl ?_
  refine g_iconst C (v := 3) dL_law_1198 (by decide) ?_
  refine g_iadd C (v := 3) dL_law_1199 (by decide) ?_
  refine g_sld C (v := xs 3) hX hbl hbA (by unfold vp_in; decide) (congrArg xs (by decide)) dL_law_1200 ?_
  refine s_callVI C K hms hmn (u_odds Wm hm km Fm3 (xs 1) (xs 2) (xs 3)) hm km (by decide) rfl v_L_164 rfl ⟨rfl, rfl⟩ ⟨Nat.le_of_ble_eq_true rfl, Nat.le_of_ble_eq_true rfl⟩ (Nat.le_of_ble_eq_true rfl) ⟨Nat.le_of_ble_eq_true rfl, Nat.le_of_ble_eq_true rfl⟩ dL_law_1201 (st := [.int r1]) rfl (fun r2 I4 J4 h2 I5 J5 e3 e4 => ?_)
  refine t_icmp_eq C (tgt := 1372) (h1.trans h2.symm) dL_law_1204 (by decide) ?_
  exact a_wide (Nat.le_of_ble_eq_true rfl) (Nat.le_of_ble_eq_true rfl) (hend I5 J5)
set_option maxRecDepth 100000 in
set_option maxHeartbeats 4000000 in
theorem k_book {p : Program} {l : Launch} {e : Env} {s : State} {m : MethodId} {below : List Frame} {meth : Method} {c : Code} {D : va_G} {cy : Nat → ClassId} {L Lx Lm : List Nat} {κ ln : Nat → Nat} {R : Nat → Nat → Option Nat} {I : Nat → Nat → Int32} {J : Nat → Nat → Int64} {ow : Nat → Nat × Nat} {x mm oo b : Nat} {xs : Nat → Int32} (H : Lc_ p s m c D cy L b 6 xs) (hL : Lq_ L Lx Lm κ ln R ow I x mm) (hend : ∀ (I2 : Nat → Nat → Int32) (J2 : Nat → Nat → Int64), WG p l e room_1 s m #[Value.ref b] below meth c 7 249 11287 (lw_Z below #[Value.ref b] s) D cy (AN_ [] s.heap.size) s.heap L κ ln R I2 J2 1372 [(4, .int 0), (3, .ref oo), (2, .ref mm), (1, .ref x), (0, .ref b)] []) : WG p l e room_1 s m #[Value.ref b] below meth c 7 248 11281 (lw_Z below #[Value.ref b] s) D cy (AN_ [] s.heap.size) s.heap L κ ln R I J 1209 [(4, .int 0), (3, .ref oo), (2, .ref mm), (1, .ref x), (0, .ref b)] [] := by
  obtain ⟨C, K, hX, hbl, hbA⟩ := H
  obtain ⟨hxs, hxn, hms, hmn, hdj, Gx, hx, kx, Gm, hm, km⟩ := hL
  have Wx : ∀ a ∈ Lx, Shp Lx κ ln R ow a := fun a ha => (Gx a ha).1
  have Wm : ∀ a ∈ Lm, Shp Lm κ ln R ow a := fun a ha => (Gm a ha).1
  have Fx : Fz_ Lx κ I := fun a ha j => (Gx a ha).2 j
  have Fm : Fz_ Lm κ I := fun a ha j => (Gm a ha).2 j
  refine g_aload_n C 3 dL_law_1209 rfl rfl ?_
  refine g_aload_n C 4 dL_law_1210 rfl rfl ?_
  refine g_iload C 0 dL_law_1211 rfl ?_
  refine g_iconst C (v := 1) dL_law_1213 (by decide) ?_
  refine g_iadd C (v := 1) dL_law_1214 (by decide) ?_
  refine g_sld C (v := xs 1) hX hbl hbA (by unfold vp_in; decide) (congrArg xs (by decide)) dL_law_1215 ?_
  refine s_callVI C K hxs hxn (t_book Wx hx kx Fx (xs 1)) hx kx (by decide) rfl v_L_165 rfl ⟨rfl, rfl⟩ ⟨Nat.le_of_ble_eq_true rfl, Nat.le_of_ble_eq_true rfl⟩ (Nat.le_of_ble_eq_true rfl) ⟨Nat.le_of_ble_eq_true rfl, Nat.le_of_ble_eq_true rfl⟩ dL_law_1216 (st := []) rfl (fun r1 I2 J2 h1 I3 J3 e1 e2 => ?_)
  have Fm3 : Fz_ Lm κ I3 := fun a ha j => by rw [e2 a (hdj a ha)]; exact Fm a ha j
  refine g_aload_n C 2 dL_law_1219 rfl rfl ?_
  refine g_aload_n C 4 dL_law_1220 rfl rfl ?_
  refine g_iload C 0 dL_law_1221 rfl ?_
  refine g_iconst C (v := 1) dL_law_1223 (by decide) ?_
  refine g_iadd C (v := 1) dL_law_1224 (by decide) ?_
  refine g_sld C (v := xs 1) hX hbl hbA (by unfold vp_in; decide) (congrArg xs (by decide)) dL_law_1225 ?_
  refine s_callVI C K hms hmn (u_book Wm hm km Fm3 (xs 1)) hm km (by decide) rfl v_L_168 rfl ⟨rfl, rfl⟩ ⟨Nat.le_of_ble_eq_true rfl, Nat.le_of_ble_eq_true rfl⟩ (Nat.le_of_ble_eq_true rfl) ⟨Nat.le_of_ble_eq_true rfl, Nat.le_of_ble_eq_true rfl⟩ dL_law_1226 (st := [.int r1]) rfl (fun r2 I4 J4 h2 I5 J5 e3 e4 => ?_)
  refine t_icmp_eq C (tgt := 1372) (h1.trans h2.symm) dL_law_1229 (by decide) ?_
  exact a_wide (Nat.le_of_ble_eq_true rfl) (Nat.le_of_ble_eq_true rfl) (hend I5 J5)
set_option maxRecDepth 100000 in
set_option maxHeartbeats 4000000 in
theorem k_told {p : Program} {l : Launch} {e : Env} {s : State} {m : MethodId} {below : List Frame} {meth : Method} {c : Code} {D : va_G} {cy : Nat → ClassId} {L Lx Lm : List Nat} {κ ln : Nat → Nat} {R : Nat → Nat → Option Nat} {I : Nat → Nat → Int32} {J : Nat → Nat → Int64} {ow : Nat → Nat × Nat} {x mm oo b : Nat} {xs : Nat → Int32} (H : Lc_ p s m c D cy L b 6 xs) (hL : Lq_ L Lx Lm κ ln R ow I x mm) (hend : ∀ (I2 : Nat → Nat → Int32) (J2 : Nat → Nat → Int64), WG p l e room_1 s m #[Value.ref b] below meth c 7 249 11287 (lw_Z below #[Value.ref b] s) D cy (AN_ [] s.heap.size) s.heap L κ ln R I2 J2 1372 [(4, .int 0), (3, .ref oo), (2, .ref mm), (1, .ref x), (0, .ref b)] []) : WG p l e room_1 s m #[Value.ref b] below meth c 7 248 11281 (lw_Z below #[Value.ref b] s) D cy (AN_ [] s.heap.size) s.heap L κ ln R I J 1234 [(4, .int 0), (3, .ref oo), (2, .ref mm), (1, .ref x), (0, .ref b)] [] := by
  obtain ⟨C, K, hX, hbl, hbA⟩ := H
  obtain ⟨hxs, hxn, hms, hmn, hdj, Gx, hx, kx, Gm, hm, km⟩ := hL
  have Wx : ∀ a ∈ Lx, Shp Lx κ ln R ow a := fun a ha => (Gx a ha).1
  have Wm : ∀ a ∈ Lm, Shp Lm κ ln R ow a := fun a ha => (Gm a ha).1
  have Fx : Fz_ Lx κ I := fun a ha j => (Gx a ha).2 j
  have Fm : Fz_ Lm κ I := fun a ha j => (Gm a ha).2 j
  refine g_aload_n C 3 dL_law_1234 rfl rfl ?_
  refine g_aload_n C 4 dL_law_1235 rfl rfl ?_
  refine g_iload C 0 dL_law_1236 rfl ?_
  refine g_iconst C (v := 1) dL_law_1238 (by decide) ?_
  refine g_iadd C (v := 1) dL_law_1239 (by decide) ?_
  refine g_sld C (v := xs 1) hX hbl hbA (by unfold vp_in; decide) (congrArg xs (by decide)) dL_law_1240 ?_
  refine s_callVI C K hxs hxn (t_told Wx hx kx Fx (xs 1)) hx kx (by decide) rfl v_L_169 rfl ⟨rfl, rfl⟩ ⟨Nat.le_of_ble_eq_true rfl, Nat.le_of_ble_eq_true rfl⟩ (Nat.le_of_ble_eq_true rfl) ⟨Nat.le_of_ble_eq_true rfl, Nat.le_of_ble_eq_true rfl⟩ dL_law_1241 (st := []) rfl (fun r1 I2 J2 h1 I3 J3 e1 e2 => ?_)
  have Fm3 : Fz_ Lm κ I3 := fun a ha j => by rw [e2 a (hdj a ha)]; exact Fm a ha j
  refine g_aload_n C 2 dL_law_1244 rfl rfl ?_
  refine g_aload_n C 4 dL_law_1245 rfl rfl ?_
  refine g_iload C 0 dL_law_1246 rfl ?_
  refine g_iconst C (v := 1) dL_law_1248 (by decide) ?_
  refine g_iadd C (v := 1) dL_law_1249 (by decide) ?_
  refine g_sld C (v := xs 1) hX hbl hbA (by unfold vp_in; decide) (congrArg xs (by decide)) dL_law_1250 ?_
  refine s_callVI C K hms hmn (u_told Wm hm km Fm3 (xs 1)) hm km (by decide) rfl v_L_172 rfl ⟨rfl, rfl⟩ ⟨Nat.le_of_ble_eq_true rfl, Nat.le_of_ble_eq_true rfl⟩ (Nat.le_of_ble_eq_true rfl) ⟨Nat.le_of_ble_eq_true rfl, Nat.le_of_ble_eq_true rfl⟩ dL_law_1251 (st := [.int r1]) rfl (fun r2 I4 J4 h2 I5 J5 e3 e4 => ?_)
  refine t_icmp_eq C (tgt := 1372) (h1.trans h2.symm) dL_law_1254 (by decide) ?_
  exact a_wide (Nat.le_of_ble_eq_true rfl) (Nat.le_of_ble_eq_true rfl) (hend I5 J5)
set_option maxRecDepth 100000 in
set_option maxHeartbeats 4000000 in
theorem k_sentence {p : Program} {l : Launch} {e : Env} {s : State} {m : MethodId} {below : List Frame} {meth : Method} {c : Code} {D : va_G} {cy : Nat → ClassId} {L Lx Lm : List Nat} {κ ln : Nat → Nat} {R : Nat → Nat → Option Nat} {I : Nat → Nat → Int32} {J : Nat → Nat → Int64} {ow : Nat → Nat × Nat} {x mm oo b : Nat} {xs : Nat → Int32} (H : Lc_ p s m c D cy L b 6 xs) (hL : Lq_ L Lx Lm κ ln R ow I x mm) (hend : ∀ (I2 : Nat → Nat → Int32) (J2 : Nat → Nat → Int64), WG p l e room_1 s m #[Value.ref b] below meth c 7 249 11287 (lw_Z below #[Value.ref b] s) D cy (AN_ [] s.heap.size) s.heap L κ ln R I2 J2 1372 [(4, .int 0), (3, .ref oo), (2, .ref mm), (1, .ref x), (0, .ref b)] []) : WG p l e room_1 s m #[Value.ref b] below meth c 7 248 11281 (lw_Z below #[Value.ref b] s) D cy (AN_ [] s.heap.size) s.heap L κ ln R I J 1259 [(4, .int 0), (3, .ref oo), (2, .ref mm), (1, .ref x), (0, .ref b)] [] := by
  obtain ⟨C, K, hX, hbl, hbA⟩ := H
  obtain ⟨hxs, hxn, hms, hmn, hdj, Gx, hx, kx, Gm, hm, km⟩ := hL
  have Wx : ∀ a ∈ Lx, Shp Lx κ ln R ow a := fun a ha => (Gx a ha).1
  have Wm : ∀ a ∈ Lm, Shp Lm κ ln R ow a := fun a ha => (Gm a ha).1
  have Fx : Fz_ Lx κ I := fun a ha j => (Gx a ha).2 j
  have Fm : Fz_ Lm κ I := fun a ha j => (Gm a ha).2 j
  refine g_aload_n C 3 dL_law_1259 rfl rfl ?_
  refine s_callVI C K hxs hxn (t_sentence Wx hx kx Fx) hx kx (by decide) rfl v_L_173 rfl ⟨rfl, rfl⟩ ⟨Nat.le_of_ble_eq_true rfl, Nat.le_of_ble_eq_true rfl⟩ (Nat.le_of_ble_eq_true rfl) ⟨Nat.le_of_ble_eq_true rfl, Nat.le_of_ble_eq_true rfl⟩ dL_law_1260 (st := []) rfl (fun r1 I2 J2 h1 I3 J3 e1 e2 => ?_)
  have Fm3 : Fz_ Lm κ I3 := fun a ha j => by rw [e2 a (hdj a ha)]; exact Fm a ha j
  refine g_aload_n C 2 dL_law_1263 rfl rfl ?_
  refine s_callVI C K hms hmn (u_sentence Wm hm km Fm3) hm km (by decide) rfl v_L_176 rfl ⟨rfl, rfl⟩ ⟨Nat.le_of_ble_eq_true rfl, Nat.le_of_ble_eq_true rfl⟩ (Nat.le_of_ble_eq_true rfl) ⟨Nat.le_of_ble_eq_true rfl, Nat.le_of_ble_eq_true rfl⟩ dL_law_1264 (st := [.int r1]) rfl (fun r2 I4 J4 h2 I5 J5 e3 e4 => ?_)
  refine t_icmp_eq C (tgt := 1372) (h1.trans h2.symm) dL_law_1267 (by decide) ?_
  exact a_wide (Nat.le_of_ble_eq_true rfl) (Nat.le_of_ble_eq_true rfl) (hend I5 J5)
set_option maxRecDepth 100000 in
set_option maxHeartbeats 4000000 in
theorem k_said {p : Program} {l : Launch} {e : Env} {s : State} {m : MethodId} {below : List Frame} {meth : Method} {c : Code} {D : va_G} {cy : Nat → ClassId} {L Lx Lm : List Nat} {κ ln : Nat → Nat} {R : Nat → Nat → Option Nat} {I : Nat → Nat → Int32} {J : Nat → Nat → Int64} {ow : Nat → Nat × Nat} {x mm oo b : Nat} {xs : Nat → Int32} (H : Lc_ p s m c D cy L b 6 xs) (hL : Lq_ L Lx Lm κ ln R ow I x mm) (hend : ∀ (I2 : Nat → Nat → Int32) (J2 : Nat → Nat → Int64), WG p l e room_1 s m #[Value.ref b] below meth c 7 249 11287 (lw_Z below #[Value.ref b] s) D cy (AN_ [] s.heap.size) s.heap L κ ln R I2 J2 1372 [(4, .int 0), (3, .ref oo), (2, .ref mm), (1, .ref x), (0, .ref b)] []) : WG p l e room_1 s m #[Value.ref b] below meth c 7 248 11281 (lw_Z below #[Value.ref b] s) D cy (AN_ [] s.heap.size) s.heap L κ ln R I J 1272 [(4, .int 0), (3, .ref oo), (2, .ref mm), (1, .ref x), (0, .ref b)] [] := by
  obtain ⟨C, K, hX, hbl, hbA⟩ := H
  obtain ⟨hxs, hxn, hms, hmn, hdj, Gx, hx, kx, Gm, hm, km⟩ := hL
  have Wx : ∀ a ∈ Lx, Shp Lx κ ln R ow a := fun a ha => (Gx a ha).1
  have Wm : ∀ a ∈ Lm, Shp Lm κ ln R ow a := fun a ha => (Gm a ha).1
  have Fx : Fz_ Lx κ I := fun a ha j => (Gx a ha).2 j
  have Fm : Fz_ Lm κ I := fun a ha j => (Gm a ha).2 j
  refine g_aload_n C 3 dL_law_1272 rfl rfl ?_
  refine g_aload_n C 4 dL_law_1273 rfl rfl ?_
  refine g_iload C 0 dL_law_1274 rfl ?_
  refine g_iconst C (v := 1) dL_law_1276 (by decide) ?_
  refine g_iadd C (v := 1) dL_law_1277 (by decide) ?_
  refine g_sld C (v := xs 1) hX hbl hbA (by unfold vp_in; decide) (congrArg xs (by decide)) dL_law_1278 ?_
  refine s_callVI C K hxs hxn (t_said Wx hx kx Fx (xs 1)) hx kx (by decide) rfl v_L_177 rfl ⟨rfl, rfl⟩ ⟨Nat.le_of_ble_eq_true rfl, Nat.le_of_ble_eq_true rfl⟩ (Nat.le_of_ble_eq_true rfl) ⟨Nat.le_of_ble_eq_true rfl, Nat.le_of_ble_eq_true rfl⟩ dL_law_1279 (st := []) rfl (fun r1 I2 J2 h1 I3 J3 e1 e2 => ?_)
  have Fm3 : Fz_ Lm κ I3 := fun a ha j => by rw [e2 a (hdj a ha)]; exact Fm a ha j
  refine g_aload_n C 2 dL_law_1282 rfl rfl ?_
  refine g_aload_n C 4 dL_law_1283 rfl rfl ?_
  refine g_iload C 0 dL_law_1284 rfl ?_
  refine g_iconst C (v := 1) dL_law_1286 (by decide) ?_
  refine g_iadd C (v := 1) dL_law_1287 (by decide) ?_
  refine g_sld C (v := xs 1) hX hbl hbA (by unfold vp_in; decide) (congrArg xs (by decide)) dL_law_1288 ?_
  refine s_callVI C K hms hmn (u_said Wm hm km Fm3 (xs 1)) hm km (by decide) rfl v_L_180 rfl ⟨rfl, rfl⟩ ⟨Nat.le_of_ble_eq_true rfl, Nat.le_of_ble_eq_true rfl⟩ (Nat.le_of_ble_eq_true rfl) ⟨Nat.le_of_ble_eq_true rfl, Nat.le_of_ble_eq_true rfl⟩ dL_law_1289 (st := [.int r1]) rfl (fun r2 I4 J4 h2 I5 J5 e3 e4 => ?_)
  refine t_icmp_eq C (tgt := 1372) (h1.trans h2.symm) dL_law_1292 (by decide) ?_
  exact a_wide (Nat.le_of_ble_eq_true rfl) (Nat.le_of_ble_eq_true rfl) (hend I5 J5)
set_option maxRecDepth 100000 in
set_option maxHeartbeats 4000000 in
theorem k_image {p : Program} {l : Launch} {e : Env} {s : State} {m : MethodId} {below : List Frame} {meth : Method} {c : Code} {D : va_G} {cy : Nat → ClassId} {L Lx Lm : List Nat} {κ ln : Nat → Nat} {R : Nat → Nat → Option Nat} {I : Nat → Nat → Int32} {J : Nat → Nat → Int64} {ow : Nat → Nat × Nat} {x mm oo b : Nat} {xs : Nat → Int32} (H : Lc_ p s m c D cy L b 6 xs) (hL : Lq_ L Lx Lm κ ln R ow I x mm) (hend : ∀ (I2 : Nat → Nat → Int32) (J2 : Nat → Nat → Int64), WG p l e room_1 s m #[Value.ref b] below meth c 7 249 11287 (lw_Z below #[Value.ref b] s) D cy (AN_ [] s.heap.size) s.heap L κ ln R I2 J2 1372 [(4, .int 0), (3, .ref oo), (2, .ref mm), (1, .ref x), (0, .ref b)] []) : WG p l e room_1 s m #[Value.ref b] below meth c 7 248 11281 (lw_Z below #[Value.ref b] s) D cy (AN_ [] s.heap.size) s.heap L κ ln R I J 1297 [(4, .int 0), (3, .ref oo), (2, .ref mm), (1, .ref x), (0, .ref b)] [] := by
  obtain ⟨C, K, hX, hbl, hbA⟩ := H
  obtain ⟨hxs, hxn, hms, hmn, hdj, Gx, hx, kx, Gm, hm, km⟩ := hL
  have Wx : ∀ a ∈ Lx, Shp Lx κ ln R ow a := fun a ha => (Gx a ha).1
  have Wm : ∀ a ∈ Lm, Shp Lm κ ln R ow a := fun a ha => (Gm a ha).1
  have Fx : Fz_ Lx κ I := fun a ha j => (Gx a ha).2 j
  have Fm : Fz_ Lm κ I := fun a ha j => (Gm a ha).2 j
  refine g_aload_n C 3 dL_law_1297 rfl rfl ?_
  refine g_aload_n C 4 dL_law_1298 rfl rfl ?_
  refine g_iload C 0 dL_law_1299 rfl ?_
  refine g_iconst C (v := 1) dL_law_1301 (by decide) ?_
  refine g_iadd C (v := 1) dL_law_1302 (by decide) ?_
  refine g_sld C (v := xs 1) hX hbl hbA (by unfold vp_in; decide) (congrArg xs (by decide)) dL_law_1303 ?_
  refine s_callVI C K hxs hxn (t_image Wx hx kx Fx (xs 1)) hx kx (by decide) rfl v_L_181 rfl ⟨rfl, rfl⟩ ⟨Nat.le_of_ble_eq_true rfl, Nat.le_of_ble_eq_true rfl⟩ (Nat.le_of_ble_eq_true rfl) ⟨Nat.le_of_ble_eq_true rfl, Nat.le_of_ble_eq_true rfl⟩ dL_law_1304 (st := []) rfl (fun r1 I2 J2 h1 I3 J3 e1 e2 => ?_)
  have Fm3 : Fz_ Lm κ I3 := fun a ha j => by rw [e2 a (hdj a ha)]; exact Fm a ha j
  refine g_aload_n C 2 dL_law_1307 rfl rfl ?_
  refine g_aload_n C 4 dL_law_1308 rfl rfl ?_
  refine g_iload C 0 dL_law_1309 rfl ?_
  refine g_iconst C (v := 1) dL_law_1311 (by decide) ?_
  refine g_iadd C (v := 1) dL_law_1312 (by decide) ?_
  refine g_sld C (v := xs 1) hX hbl hbA (by unfold vp_in; decide) (congrArg xs (by decide)) dL_law_1313 ?_
  refine s_callVI C K hms hmn (u_image Wm hm km Fm3 (xs 1)) hm km (by decide) rfl v_L_184 rfl ⟨rfl, rfl⟩ ⟨Nat.le_of_ble_eq_true rfl, Nat.le_of_ble_eq_true rfl⟩ (Nat.le_of_ble_eq_true rfl) ⟨Nat.le_of_ble_eq_true rfl, Nat.le_of_ble_eq_true rfl⟩ dL_law_1314 (st := [.int r1]) rfl (fun r2 I4 J4 h2 I5 J5 e3 e4 => ?_)
  refine t_icmp_eq C (tgt := 1372) (h1.trans h2.symm) dL_law_1317 (by decide) ?_
  exact a_wide (Nat.le_of_ble_eq_true rfl) (Nat.le_of_ble_eq_true rfl) (hend I5 J5)
set_option maxRecDepth 100000 in
set_option maxHeartbeats 4000000 in
theorem k_restore {p : Program} {l : Launch} {e : Env} {s : State} {m : MethodId} {below : List Frame} {meth : Method} {c : Code} {D : va_G} {cy : Nat → ClassId} {L Lx Lm : List Nat} {κ ln : Nat → Nat} {R : Nat → Nat → Option Nat} {I : Nat → Nat → Int32} {J : Nat → Nat → Int64} {ow : Nat → Nat × Nat} {x mm oo b : Nat} {xs : Nat → Int32} (H : Lc_ p s m c D cy L b 6 xs) (hL : Lq_ L Lx Lm κ ln R ow I x mm) (hend : ∀ (I2 : Nat → Nat → Int32) (J2 : Nat → Nat → Int64), WG p l e room_1 s m #[Value.ref b] below meth c 7 249 11287 (lw_Z below #[Value.ref b] s) D cy (AN_ [] s.heap.size) s.heap L κ ln R I2 J2 1372 [(4, .int 0), (3, .ref oo), (2, .ref mm), (1, .ref x), (0, .ref b)] []) : WG p l e room_1 s m #[Value.ref b] below meth c 7 248 11281 (lw_Z below #[Value.ref b] s) D cy (AN_ [] s.heap.size) s.heap L κ ln R I J 1322 [(4, .int 0), (3, .ref oo), (2, .ref mm), (1, .ref x), (0, .ref b)] [] := by
  obtain ⟨C, K, hX, hbl, hbA⟩ := H
  obtain ⟨hxs, hxn, hms, hmn, hdj, Gx, hx, kx, Gm, hm, km⟩ := hL
  have Wx : ∀ a ∈ Lx, Shp Lx κ ln R ow a := fun a ha => (Gx a ha).1
  have Wm : ∀ a ∈ Lm, Shp Lm κ ln R ow a := fun a ha => (Gm a ha).1
  have Fx : Fz_ Lx κ I := fun a ha j => (Gx a ha).2 j
  have Fm : Fz_ Lm κ I := fun a ha j => (Gm a ha).2 j
  refine g_aload_n C 3 dL_law_1322 rfl rfl ?_
  refine g_aload_n C 4 dL_law_1323 rfl rfl ?_
  refine g_iload C 0 dL_law_1324 rfl ?_
  refine g_iconst C (v := 1) dL_law_1326 (by decide) ?_
  refine g_iadd C (v := 1) dL_law_1327 (by decide) ?_
  refine g_sld C (v := xs 1) hX hbl hbA (by unfold vp_in; decide) (congrArg xs (by decide)) dL_law_1328 ?_
  refine s_callVI C K hxs hxn (t_restore Wx hx kx Fx (xs 1)) hx kx (by decide) rfl v_L_185 rfl ⟨rfl, rfl⟩ ⟨Nat.le_of_ble_eq_true rfl, Nat.le_of_ble_eq_true rfl⟩ (Nat.le_of_ble_eq_true rfl) ⟨Nat.le_of_ble_eq_true rfl, Nat.le_of_ble_eq_true rfl⟩ dL_law_1329 (st := []) rfl (fun r1 I2 J2 h1 I3 J3 e1 e2 => ?_)
  have Fm3 : Fz_ Lm κ I3 := fun a ha j => by rw [e2 a (hdj a ha)]; exact Fm a ha j
  refine g_aload_n C 2 dL_law_1332 rfl rfl ?_
  refine g_aload_n C 4 dL_law_1333 rfl rfl ?_
  refine g_iload C 0 dL_law_1334 rfl ?_
  refine g_iconst C (v := 1) dL_law_1336 (by decide) ?_
  refine g_iadd C (v := 1) dL_law_1337 (by decide) ?_
  refine g_sld C (v := xs 1) hX hbl hbA (by unfold vp_in; decide) (congrArg xs (by decide)) dL_law_1338 ?_
  refine s_callVI C K hms hmn (u_restore Wm hm km Fm3 (xs 1)) hm km (by decide) rfl v_L_188 rfl ⟨rfl, rfl⟩ ⟨Nat.le_of_ble_eq_true rfl, Nat.le_of_ble_eq_true rfl⟩ (Nat.le_of_ble_eq_true rfl) ⟨Nat.le_of_ble_eq_true rfl, Nat.le_of_ble_eq_true rfl⟩ dL_law_1339 (st := [.int r1]) rfl (fun r2 I4 J4 h2 I5 J5 e3 e4 => ?_)
  refine t_icmp_eq C (tgt := 1372) (h1.trans h2.symm) dL_law_1342 (by decide) ?_
  exact a_wide (Nat.le_of_ble_eq_true rfl) (Nat.le_of_ble_eq_true rfl) (hend I5 J5)
set_option maxRecDepth 100000 in
set_option maxHeartbeats 4000000 in
theorem k_count {p : Program} {l : Launch} {e : Env} {s : State} {m : MethodId} {below : List Frame} {meth : Method} {c : Code} {D : va_G} {cy : Nat → ClassId} {L Lx Lm : List Nat} {κ ln : Nat → Nat} {R : Nat → Nat → Option Nat} {I : Nat → Nat → Int32} {J : Nat → Nat → Int64} {ow : Nat → Nat × Nat} {x mm oo b : Nat} {xs : Nat → Int32} (H : Lc_ p s m c D cy L b 6 xs) (hL : Lq_ L Lx Lm κ ln R ow I x mm) (hend : ∀ (I2 : Nat → Nat → Int32) (J2 : Nat → Nat → Int64), WG p l e room_1 s m #[Value.ref b] below meth c 7 249 11287 (lw_Z below #[Value.ref b] s) D cy (AN_ [] s.heap.size) s.heap L κ ln R I2 J2 1372 [(4, .int 0), (3, .ref oo), (2, .ref mm), (1, .ref x), (0, .ref b)] []) : WG p l e room_1 s m #[Value.ref b] below meth c 7 248 11281 (lw_Z below #[Value.ref b] s) D cy (AN_ [] s.heap.size) s.heap L κ ln R I J 1347 [(4, .int 0), (3, .ref oo), (2, .ref mm), (1, .ref x), (0, .ref b)] [] := by
  obtain ⟨C, K, hX, hbl, hbA⟩ := H
  obtain ⟨hxs, hxn, hms, hmn, hdj, Gx, hx, kx, Gm, hm, km⟩ := hL
  have Wx : ∀ a ∈ Lx, Shp Lx κ ln R ow a := fun a ha => (Gx a ha).1
  have Wm : ∀ a ∈ Lm, Shp Lm κ ln R ow a := fun a ha => (Gm a ha).1
  have Fx : Fz_ Lx κ I := fun a ha j => (Gx a ha).2 j
  have Fm : Fz_ Lm κ I := fun a ha j => (Gm a ha).2 j
  refine g_aload_n C 3 dL_law_1347 rfl rfl ?_
  refine g_aload_n C 4 dL_law_1348 rfl rfl ?_
  refine g_iload C 0 dL_law_1349 rfl ?_
  refine g_iconst C (v := 1) dL_law_1351 (by decide) ?_
  refine g_iadd C (v := 1) dL_law_1352 (by decide) ?_
  refine g_sld C (v := xs 1) hX hbl hbA (by unfold vp_in; decide) (congrArg xs (by decide)) dL_law_1353 ?_
  refine s_callVI C K hxs hxn (t_count Wx hx kx Fx (xs 1)) hx kx (by decide) rfl v_L_189 rfl ⟨rfl, rfl⟩ ⟨Nat.le_of_ble_eq_true rfl, Nat.le_of_ble_eq_true rfl⟩ (Nat.le_of_ble_eq_true rfl) ⟨Nat.le_of_ble_eq_true rfl, Nat.le_of_ble_eq_true rfl⟩ dL_law_1354 (st := []) rfl (fun r1 I2 J2 h1 I3 J3 e1 e2 => ?_)
  have Fm3 : Fz_ Lm κ I3 := fun a ha j => by rw [e2 a (hdj a ha)]; exact Fm a ha j
  refine g_aload_n C 2 dL_law_1357 rfl rfl ?_
  refine g_aload_n C 4 dL_law_1358 rfl rfl ?_
  refine g_iload C 0 dL_law_1359 rfl ?_
  refine g_iconst C (v := 1) dL_law_1361 (by decide) ?_
  refine g_iadd C (v := 1) dL_law_1362 (by decide) ?_
  refine g_sld C (v := xs 1) hX hbl hbA (by unfold vp_in; decide) (congrArg xs (by decide)) dL_law_1363 ?_
  refine s_callVI C K hms hmn (u_count Wm hm km Fm3 (xs 1)) hm km (by decide) rfl v_L_192 rfl ⟨rfl, rfl⟩ ⟨Nat.le_of_ble_eq_true rfl, Nat.le_of_ble_eq_true rfl⟩ (Nat.le_of_ble_eq_true rfl) ⟨Nat.le_of_ble_eq_true rfl, Nat.le_of_ble_eq_true rfl⟩ dL_law_1364 (st := [.int r1]) rfl (fun r2 I4 J4 h2 I5 J5 e3 e4 => ?_)
  refine t_icmp_eq C (tgt := 1372) (h1.trans h2.symm) dL_law_1367 (by decide) ?_
  exact a_wide (Nat.le_of_ble_eq_true rfl) (Nat.le_of_ble_eq_true rfl) (hend I5 J5)
set_option maxRecDepth 100000 in
set_option maxHeartbeats 4000000 in
theorem lw_loop {p : Program} {l : Launch} {e : Env} {s : State} {m : MethodId} {below : List Frame} {meth : Method} {c : Code} {D : va_G} {cy : Nat → ClassId} {L Lx Lm : List Nat} {κ ln : Nat → Nat} {R : Nat → Nat → Option Nat} {I : Nat → Nat → Int32} {J : Nat → Nat → Int64} {ow : Nat → Nat × Nat} {x mm oo b N : Nat} {xs : Nat → Int32} (H : Lc_ p s m c D cy L b N xs) (hN : N ≤ 6) (hL : Lq_ L Lx Lm κ ln R ow I x mm) (hst : l.stackTraces = false) {sa : Nat} (hE : Ep_ sa (AN_ [] s.heap.size) s) (hr : meth.sig.returnType = ret) (hk : meth.locks = false) : WG p l e room_1 s m #[Value.ref b] below meth c 7 248 11281 (lw_Z below #[Value.ref b] s) D cy (AN_ [] s.heap.size) s.heap L κ ln R I J 23 [(4, .int 0), (3, .ref oo), (2, .ref mm), (1, .ref x), (0, .ref b)] [] := by
  have hC := H
  obtain ⟨C, K, hX, hbl, hbA⟩ := H
  refine g_iload C 0 dL_law_23 rfl ?_
  refine g_aload_n C 4 dL_law_25 rfl rfl ?_
  refine g_slen C hX hbl hbA dL_law_26 ?_
  refine g_bipush C (v := 6) dL_law_27 (by decide) ?_
  refine g_isub C (v := Int32.ofNat N - 6) dL_law_29 rfl ?_
  by_cases h6 : N = 6
  · subst h6
    refine n_icmp_gt C (tgt := 1378) (by decide) dL_law_30 (by decide) ?_
    refine g_aload_n C 4 dL_law_33 rfl rfl ?_
    refine g_iload C 0 dL_law_34 rfl ?_
    refine g_sld C (v := xs 0) hX hbl hbA (by unfold vp_in; decide) (congrArg xs (by decide)) dL_law_36 ?_
    refine g_bipush C (v := 63) dL_law_37 (by decide) ?_
    refine g_iand C (v := xs 0 &&& 63) dL_law_39 rfl ?_
    generalize xs 0 &&& 63 = v
    have hend : ∀ (I2 : Nat → Nat → Int32) (J2 : Nat → Nat → Int64), WG p l e room_1 s m #[Value.ref b] below meth c 7 249 11287 (lw_Z below #[Value.ref b] s) D cy (AN_ [] s.heap.size) s.heap L κ ln R I2 J2 1372 [(4, .int 0), (3, .ref oo), (2, .ref mm), (1, .ref x), (0, .ref b)] [] := fun I2 J2 => lw_end hC hr hk
    by_cases c0 : v.toInt = 0
    · exact g_tableIn C (tgt := 220) (off := 180) dL_law_40 (by omega) (by omega) (by rw [c0]; rfl) (by decide) (k_feed hC hL hend)
    by_cases c1 : v.toInt = 1
    · exact g_tableIn C (tgt := 293) (off := 253) dL_law_40 (by omega) (by omega) (by rw [c1]; rfl) (by decide) (k_end hC hL hend)
    by_cases c2 : v.toInt = 2
    · exact g_tableIn C (tgt := 318) (off := 278) dL_law_40 (by omega) (by omega) (by rw [c2]; rfl) (by decide) (k_table hC hL hend)
    by_cases c3 : v.toInt = 3
    · exact g_tableIn C (tgt := 331) (off := 291) dL_law_40 (by omega) (by omega) (by rw [c3]; rfl) (by decide) (k_fault hC hL hend)
    by_cases c4 : v.toInt = 4
    · exact g_tableIn C (tgt := 344) (off := 304) dL_law_40 (by omega) (by omega) (by rw [c4]; rfl) (by decide) (k_person hC hL hst hE hend)
    by_cases c5 : v.toInt = 5
    · exact g_tableIn C (tgt := 412) (off := 372) dL_law_40 (by omega) (by omega) (by rw [c5]; rfl) (by decide) (k_plate hC hL hend)
    by_cases c6 : v.toInt = 6
    · exact g_tableIn C (tgt := 449) (off := 409) dL_law_40 (by omega) (by omega) (by rw [c6]; rfl) (by decide) (k_dish hC hL hend)
    by_cases c7 : v.toInt = 7
    · exact g_tableIn C (tgt := 486) (off := 446) dL_law_40 (by omega) (by omega) (by rw [c7]; rfl) (by decide) (k_now hC hL hend)
    by_cases c8 : v.toInt = 8
    · exact g_tableIn C (tgt := 511) (off := 471) dL_law_40 (by omega) (by omega) (by rw [c8]; rfl) (by decide) (k_eat hC hL hend)
    by_cases c9 : v.toInt = 9
    · exact g_tableIn C (tgt := 560) (off := 520) dL_law_40 (by omega) (by omega) (by rw [c9]; rfl) (by decide) (k_serve hC hL hend)
    by_cases c10 : v.toInt = 10
    · exact g_tableIn C (tgt := 609) (off := 569) dL_law_40 (by omega) (by omega) (by rw [c10]; rfl) (by decide) (k_rise hC hL hend)
    by_cases c11 : v.toInt = 11
    · exact g_tableIn C (tgt := 634) (off := 594) dL_law_40 (by omega) (by omega) (by rw [c11]; rfl) (by decide) (k_refuse hC hL hend)
    by_cases c12 : v.toInt = 12
    · exact g_tableIn C (tgt := 659) (off := 619) dL_law_40 (by omega) (by omega) (by rw [c12]; rfl) (by decide) (k_accept hC hL hend)
    by_cases c13 : v.toInt = 13
    · exact g_tableIn C (tgt := 684) (off := 644) dL_law_40 (by omega) (by omega) (by rw [c13]; rfl) (by decide) (k_die hC hL hend)
    by_cases c14 : v.toInt = 14
    · exact g_tableIn C (tgt := 709) (off := 669) dL_law_40 (by omega) (by omega) (by rw [c14]; rfl) (by decide) (k_meals hC hL hend)
    by_cases c15 : v.toInt = 15
    · exact g_tableIn C (tgt := 734) (off := 694) dL_law_40 (by omega) (by omega) (by rw [c15]; rfl) (by decide) (k_undo hC hL hend)
    by_cases c16 : v.toInt = 16
    · exact g_tableIn C (tgt := 747) (off := 707) dL_law_40 (by omega) (by omega) (by rw [c16]; rfl) (by decide) (k_heir hC hL hend)
    by_cases c17 : v.toInt = 17
    · exact g_tableIn C (tgt := 772) (off := 732) dL_law_40 (by omega) (by omega) (by rw [c17]; rfl) (by decide) (k_line hC hL hend)
    by_cases c18 : v.toInt = 18
    · exact g_tableIn C (tgt := 809) (off := 769) dL_law_40 (by omega) (by omega) (by rw [c18]; rfl) (by decide) (k_order hC hL hend)
    by_cases c19 : v.toInt = 19
    · exact g_tableIn C (tgt := 822) (off := 782) dL_law_40 (by omega) (by omega) (by rw [c19]; rfl) (by decide) (k_orderAt hC hL hend)
    by_cases c20 : v.toInt = 20
    · exact g_tableIn C (tgt := 847) (off := 807) dL_law_40 (by omega) (by omega) (by rw [c20]; rfl) (by decide) (k_eaters hC hL hend)
    by_cases c21 : v.toInt = 21
    · exact g_tableIn C (tgt := 860) (off := 820) dL_law_40 (by omega) (by omega) (by rw [c21]; rfl) (by decide) (k_surely hC hL hend)
    by_cases c22 : v.toInt = 22
    · exact g_tableIn C (tgt := 873) (off := 833) dL_law_40 (by omega) (by omega) (by rw [c22]; rfl) (by decide) (k_ask hC hL hend)
    by_cases c23 : v.toInt = 23
    · exact g_tableIn C (tgt := 886) (off := 846) dL_law_40 (by omega) (by omega) (by rw [c23]; rfl) (by decide) (k_share hC hL hend)
    by_cases c24 : v.toInt = 24
    · exact g_tableIn C (tgt := 935) (off := 895) dL_law_40 (by omega) (by omega) (by rw [c24]; rfl) (by decide) (k_last hC hL hend)
    by_cases c25 : v.toInt = 25
    · exact g_tableIn C (tgt := 960) (off := 920) dL_law_40 (by omega) (by omega) (by rw [c25]; rfl) (by decide) (k_seats hC hL hend)
    by_cases c26 : v.toInt = 26
    · exact g_tableIn C (tgt := 973) (off := 933) dL_law_40 (by omega) (by omega) (by rw [c26]; rfl) (by decide) (k_seatAt hC hL hend)
    by_cases c27 : v.toInt = 27
    · exact g_tableIn C (tgt := 998) (off := 958) dL_law_40 (by omega) (by omega) (by rw [c27]; rfl) (by decide) (k_left hC hL hend)
    by_cases c28 : v.toInt = 28
    · exact g_tableIn C (tgt := 1023) (off := 983) dL_law_40 (by omega) (by omega) (by rw [c28]; rfl) (by decide) (k_kin hC hL hend)
    by_cases c29 : v.toInt = 29
    · exact g_tableIn C (tgt := 1060) (off := 1020) dL_law_40 (by omega) (by omega) (by rw [c29]; rfl) (by decide) (k_hungriest hC hL hend)
    by_cases c30 : v.toInt = 30
    · exact g_tableIn C (tgt := 1073) (off := 1033) dL_law_40 (by omega) (by omega) (by rw [c30]; rfl) (by decide) (k_will hC hL hend)
    by_cases c31 : v.toInt = 31
    · exact g_tableIn C (tgt := 1098) (off := 1058) dL_law_40 (by omega) (by omega) (by rw [c31]; rfl) (by decide) (k_byteAt hC hL hend)
    by_cases c32 : v.toInt = 32
    · exact g_tableIn C (tgt := 1123) (off := 1083) dL_law_40 (by omega) (by omega) (by rw [c32]; rfl) (by decide) (k_drawn hC hL hend)
    by_cases c33 : v.toInt = 33
    · exact g_tableIn C (tgt := 1160) (off := 1120) dL_law_40 (by omega) (by omega) (by rw [c33]; rfl) (by decide) (k_odds hC hL hend)
    by_cases c34 : v.toInt = 34
    · exact g_tableIn C (tgt := 1209) (off := 1169) dL_law_40 (by omega) (by omega) (by rw [c34]; rfl) (by decide) (k_book hC hL hend)
    by_cases c35 : v.toInt = 35
    · exact g_tableIn C (tgt := 1234) (off := 1194) dL_law_40 (by omega) (by omega) (by rw [c35]; rfl) (by decide) (k_told hC hL hend)
    by_cases c36 : v.toInt = 36
    · exact g_tableIn C (tgt := 1259) (off := 1219) dL_law_40 (by omega) (by omega) (by rw [c36]; rfl) (by decide) (k_sentence hC hL hend)
    by_cases c37 : v.toInt = 37
    · exact g_tableIn C (tgt := 1272) (off := 1232) dL_law_40 (by omega) (by omega) (by rw [c37]; rfl) (by decide) (k_said hC hL hend)
    by_cases c38 : v.toInt = 38
    · exact g_tableIn C (tgt := 1297) (off := 1257) dL_law_40 (by omega) (by omega) (by rw [c38]; rfl) (by decide) (k_image hC hL hend)
    by_cases c39 : v.toInt = 39
    · exact g_tableIn C (tgt := 1322) (off := 1282) dL_law_40 (by omega) (by omega) (by rw [c39]; rfl) (by decide) (k_restore hC hL hend)
    by_cases c40 : v.toInt = 40
    · exact g_tableIn C (tgt := 1347) (off := 1307) dL_law_40 (by omega) (by omega) (by rw [c40]; rfl) (by decide) (k_count hC hL hend)
    refine g_tableOut C (tgt := 1372) dL_law_40 (by omega) (by decide) ?_
    exact a_wide (Nat.le_of_ble_eq_true rfl) (Nat.le_of_ble_eq_true rfl) (hend I J)
  · refine t_icmp_gt C (tgt := 1378) ?_ dL_law_30 (by decide) (lw_one hC hr hk (Nat.le_of_ble_eq_true rfl) (Nat.le_of_ble_eq_true rfl))
    have : N = 0 ∨ N = 1 ∨ N = 2 ∨ N = 3 ∨ N = 4 ∨ N = 5 := by omega
    rcases this with h | h | h | h | h | h <;> subst h <;> decide
