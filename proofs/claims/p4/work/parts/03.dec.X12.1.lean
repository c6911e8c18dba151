theorem dX12_goesOn_243 : decode cX12_goesOn 243 = .ok (.bipush 38, 2) := by decide +kernel
theorem dX12_goesOn_245 : decode cX12_goesOn 245 = .ok (.goto 19, 3) := by decide +kernel
theorem dX12_goesOn_248 : decode cX12_goesOn 248 = .ok (.aload_n 0, 1) := by decide +kernel
theorem dX12_goesOn_249 : decode cX12_goesOn 249 = .ok (.bipush 62, 2) := by decide +kernel
theorem dX12_goesOn_251 : decode cX12_goesOn 251 = .ok (.invokevirtual 241, 3) := by decide +kernel
theorem dX12_goesOn_254 : decode cX12_goesOn 254 = .ok (.ifCond .eq 8, 3) := by decide +kernel
theorem dX12_goesOn_257 : decode cX12_goesOn 257 = .ok (.bipush 39, 2) := by decide +kernel
theorem dX12_goesOn_259 : decode cX12_goesOn 259 = .ok (.goto 5, 3) := by decide +kernel
theorem dX12_goesOn_262 : decode cX12_goesOn 262 = .ok (.bipush 40, 2) := by decide +kernel
theorem dX12_goesOn_264 : decode cX12_goesOn 264 = .ok (.invokevirtual 325, 3) := by decide +kernel
theorem dX12_goesOn_267 : decode cX12_goesOn 267 = .ok (.aload_n 0, 1) := by decide +kernel
theorem dX12_goesOn_268 : decode cX12_goesOn 268 = .ok (.getfield 125, 3) := by decide +kernel
theorem dX12_goesOn_271 : decode cX12_goesOn 271 = .ok (.iload_n 1, 1) := by decide +kernel
theorem dX12_goesOn_272 : decode cX12_goesOn 272 = .ok (.iconst 1, 1) := by decide +kernel
theorem dX12_goesOn_273 : decode cX12_goesOn 273 = .ok (.iastore, 1) := by decide +kernel
theorem dX12_goesOn_274 : decode cX12_goesOn 274 = .ok (.aload_n 0, 1) := by decide +kernel
theorem dX12_goesOn_275 : decode cX12_goesOn 275 = .ok (.invokevirtual 244, 3) := by decide +kernel
theorem dX12_goesOn_278 : decode cX12_goesOn 278 = .ok (.aload_n 0, 1) := by decide +kernel
theorem dX12_goesOn_279 : decode cX12_goesOn 279 = .ok (.iconst 0, 1) := by decide +kernel
theorem dX12_goesOn_280 : decode cX12_goesOn 280 = .ok (.putfield 150, 3) := by decide +kernel
theorem dX12_goesOn_283 : decode cX12_goesOn 283 = .ok (.iconst 1, 1) := by decide +kernel
theorem dX12_goesOn_284 : decode cX12_goesOn 284 = .ok (.ireturn, 1) := by decide +kernel
theorem dX12_goesOn_285 : decode cX12_goesOn 285 = .ok (.iload_n 3, 1) := by decide +kernel
theorem dX12_goesOn_286 : decode cX12_goesOn 286 = .ok (.ifCond .eq 114, 3) := by decide +kernel
theorem dX12_goesOn_289 : decode cX12_goesOn 289 = .ok (.aload_n 0, 1) := by decide +kernel
theorem dX12_goesOn_290 : decode cX12_goesOn 290 = .ok (.ldc2_w 287, 3) := by decide +kernel
theorem dX12_goesOn_293 : decode cX12_goesOn 293 = .ok (.invokevirtual 321, 3) := by decide +kernel
theorem dX12_goesOn_296 : decode cX12_goesOn 296 = .ok (.ifCond .ne 13, 3) := by decide +kernel
theorem dX12_goesOn_299 : decode cX12_goesOn 299 = .ok (.aload_n 0, 1) := by decide +kernel
theorem dX12_goesOn_300 : decode cX12_goesOn 300 = .ok (.ldc2_w 285, 3) := by decide +kernel
theorem dX12_goesOn_303 : decode cX12_goesOn 303 = .ok (.invokevirtual 321, 3) := by decide +kernel
theorem dX12_goesOn_306 : decode cX12_goesOn 306 = .ok (.ifCond .eq 94, 3) := by decide +kernel
theorem dX12_goesOn_309 : decode cX12_goesOn 309 = .ok (.aload_n 0, 1) := by decide +kernel
theorem dX12_goesOn_310 : decode cX12_goesOn 310 = .ok (.getfield 125, 3) := by decide +kernel
theorem dX12_goesOn_313 : decode cX12_goesOn 313 = .ok (.iload_n 1, 1) := by decide +kernel
theorem dX12_goesOn_314 : decode cX12_goesOn 314 = .ok (.iaload, 1) := by decide +kernel
theorem dX12_goesOn_315 : decode cX12_goesOn 315 = .ok (.ifCond .ne 12, 3) := by decide +kernel
theorem dX12_goesOn_318 : decode cX12_goesOn 318 = .ok (.aload_n 0, 1) := by decide +kernel
theorem dX12_goesOn_319 : decode cX12_goesOn 319 = .ok (.iconst 1, 1) := by decide +kernel
theorem dX12_goesOn_320 : decode cX12_goesOn 320 = .ok (.aload_n 0, 1) := by decide +kernel
theorem dX12_goesOn_321 : decode cX12_goesOn 321 = .ok (.getfield 23, 3) := by decide +kernel
theorem dX12_goesOn_324 : decode cX12_goesOn 324 = .ok (.invokevirtual 227, 3) := by decide +kernel
theorem dX12_goesOn_327 : decode cX12_goesOn 327 = .ok (.aload_n 0, 1) := by decide +kernel
theorem dX12_goesOn_328 : decode cX12_goesOn 328 = .ok (.getfield 36, 3) := by decide +kernel
theorem dX12_goesOn_331 : decode cX12_goesOn 331 = .ok (.ifCond .le 5, 3) := by decide +kernel
theorem dX12_goesOn_334 : decode cX12_goesOn 334 = .ok (.iconst 0, 1) := by decide +kernel
theorem dX12_goesOn_335 : decode cX12_goesOn 335 = .ok (.ireturn, 1) := by decide +kernel
theorem dX12_goesOn_336 : decode cX12_goesOn 336 = .ok (.aload_n 0, 1) := by decide +kernel
theorem dX12_goesOn_337 : decode cX12_goesOn 337 = .ok (.ldc2_w 287, 3) := by decide +kernel
theorem dX12_goesOn_340 : decode cX12_goesOn 340 = .ok (.invokevirtual 321, 3) := by decide +kernel
theorem dX12_goesOn_343 : decode cX12_goesOn 343 = .ok (.istore 4, 2) := by decide +kernel
theorem dX12_goesOn_345 : decode cX12_goesOn 345 = .ok (.aload_n 0, 1) := by decide +kernel
theorem dX12_goesOn_346 : decode cX12_goesOn 346 = .ok (.iload 4, 2) := by decide +kernel
theorem dX12_goesOn_348 : decode cX12_goesOn 348 = .ok (.ifCond .eq 7, 3) := by decide +kernel
theorem dX12_goesOn_351 : decode cX12_goesOn 351 = .ok (.iconst 2, 1) := by decide +kernel
theorem dX12_goesOn_352 : decode cX12_goesOn 352 = .ok (.goto 4, 3) := by decide +kernel
theorem dX12_goesOn_355 : decode cX12_goesOn 355 = .ok (.iconst 1, 1) := by decide +kernel
theorem dX12_goesOn_356 : decode cX12_goesOn 356 = .ok (.invokevirtual 331, 3) := by decide +kernel
theorem dX12_goesOn_359 : decode cX12_goesOn 359 = .ok (.aload_n 0, 1) := by decide +kernel
theorem dX12_goesOn_360 : decode cX12_goesOn 360 = .ok (.iload 4, 2) := by decide +kernel
theorem dX12_goesOn_362 : decode cX12_goesOn 362 = .ok (.ifCond .eq 8, 3) := by decide +kernel
theorem dX12_goesOn_365 : decode cX12_goesOn 365 = .ok (.bipush 41, 2) := by decide +kernel
theorem dX12_goesOn_367 : decode cX12_goesOn 367 = .ok (.goto 5, 3) := by decide +kernel
theorem dX12_goesOn_370 : decode cX12_goesOn 370 = .ok (.bipush 42, 2) := by decide +kernel
theorem dX12_goesOn_372 : decode cX12_goesOn 372 = .ok (.invokevirtual 325, 3) := by decide +kernel
theorem dX12_goesOn_375 : decode cX12_goesOn 375 = .ok (.aload_n 0, 1) := by decide +kernel
theorem dX12_goesOn_376 : decode cX12_goesOn 376 = .ok (.getfield 125, 3) := by decide +kernel
theorem dX12_goesOn_379 : decode cX12_goesOn 379 = .ok (.iload_n 1, 1) := by decide +kernel
theorem dX12_goesOn_380 : decode cX12_goesOn 380 = .ok (.iconst 0, 1) := by decide +kernel
theorem dX12_goesOn_381 : decode cX12_goesOn 381 = .ok (.iastore, 1) := by decide +kernel
theorem dX12_goesOn_382 : decode cX12_goesOn 382 = .ok (.aload_n 0, 1) := by decide +kernel
theorem dX12_goesOn_383 : decode cX12_goesOn 383 = .ok (.getfield 128, 3) := by decide +kernel
theorem dX12_goesOn_386 : decode cX12_goesOn 386 = .ok (.iload_n 1, 1) := by decide +kernel
theorem dX12_goesOn_387 : decode cX12_goesOn 387 = .ok (.iconst 1, 1) := by decide +kernel
theorem dX12_goesOn_388 : decode cX12_goesOn 388 = .ok (.bastore, 1) := by decide +kernel
theorem dX12_goesOn_389 : decode cX12_goesOn 389 = .ok (.aload_n 0, 1) := by decide +kernel
theorem dX12_goesOn_390 : decode cX12_goesOn 390 = .ok (.invokevirtual 244, 3) := by decide +kernel
theorem dX12_goesOn_393 : decode cX12_goesOn 393 = .ok (.aload_n 0, 1) := by decide +kernel
theorem dX12_goesOn_394 : decode cX12_goesOn 394 = .ok (.iconst 0, 1) := by decide +kernel
theorem dX12_goesOn_395 : decode cX12_goesOn 395 = .ok (.putfield 150, 3) := by decide +kernel
theorem dX12_goesOn_398 : decode cX12_goesOn 398 = .ok (.iconst 1, 1) := by decide +kernel
theorem dX12_goesOn_399 : decode cX12_goesOn 399 = .ok (.ireturn, 1) := by decide +kernel
theorem dX12_goesOn_400 : decode cX12_goesOn 400 = .ok (.iload_n 3, 1) := by decide +kernel
theorem dX12_goesOn_401 : decode cX12_goesOn 401 = .ok (.ifCond .eq 21, 3) := by decide +kernel
theorem dX12_goesOn_404 : decode cX12_goesOn 404 = .ok (.aload_n 0, 1) := by decide +kernel
theorem dX12_goesOn_405 : decode cX12_goesOn 405 = .ok (.getfield 125, 3) := by decide +kernel
theorem dX12_goesOn_408 : decode cX12_goesOn 408 = .ok (.iload_n 1, 1) := by decide +kernel
theorem dX12_goesOn_409 : decode cX12_goesOn 409 = .ok (.iaload, 1) := by decide +kernel
theorem dX12_goesOn_410 : decode cX12_goesOn 410 = .ok (.ifCond .ne 12, 3) := by decide +kernel
theorem dX12_goesOn_413 : decode cX12_goesOn 413 = .ok (.aload_n 0, 1) := by decide +kernel
theorem dX12_goesOn_414 : decode cX12_goesOn 414 = .ok (.iconst 1, 1) := by decide +kernel
theorem dX12_goesOn_415 : decode cX12_goesOn 415 = .ok (.aload_n 0, 1) := by decide +kernel
theorem dX12_goesOn_416 : decode cX12_goesOn 416 = .ok (.getfield 23, 3) := by decide +kernel
theorem dX12_goesOn_419 : decode cX12_goesOn 419 = .ok (.invokevirtual 227, 3) := by decide +kernel
theorem dX12_goesOn_422 : decode cX12_goesOn 422 = .ok (.iload_n 2, 1) := by decide +kernel
theorem dX12_goesOn_423 : decode cX12_goesOn 423 = .ok (.iconst 2, 1) := by decide +kernel
theorem dX12_goesOn_424 : decode cX12_goesOn 424 = .ok (.if_icmp .ge 17, 3) := by decide +kernel
theorem dX12_goesOn_427 : decode cX12_goesOn 427 = .ok (.aload_n 0, 1) := by decide +kernel
theorem dX12_goesOn_428 : decode cX12_goesOn 428 = .ok (.getfield 36, 3) := by decide +kernel
theorem dX12_goesOn_431 : decode cX12_goesOn 431 = .ok (.ifCond .ne 8, 3) := by decide +kernel
theorem dX12_goesOn_434 : decode cX12_goesOn 434 = .ok (.aload_n 0, 1) := by decide +kernel
theorem dX12_goesOn_435 : decode cX12_goesOn 435 = .ok (.iconst 1, 1) := by decide +kernel
theorem dX12_goesOn_436 : decode cX12_goesOn 436 = .ok (.invokevirtual 331, 3) := by decide +kernel
theorem dX12_goesOn_439 : decode cX12_goesOn 439 = .ok (.iconst 0, 1) := by decide +kernel
theorem dX12_goesOn_440 : decode cX12_goesOn 440 = .ok (.ireturn, 1) := by decide +kernel
theorem dX12_goesOn_441 : decode cX12_goesOn 441 = .ok (.iload_n 2, 1) := by decide +kernel
theorem dX12_goesOn_442 : decode cX12_goesOn 442 = .ok (.iconst 3, 1) := by decide +kernel
theorem dX12_goesOn_443 : decode cX12_goesOn 443 = .ok (.if_icmp .eq 9, 3) := by decide +kernel
theorem dX12_goesOn_446 : decode cX12_goesOn 446 = .ok (.iload_n 2, 1) := by decide +kernel
theorem dX12_goesOn_447 : decode cX12_goesOn 447 = .ok (.bipush 6, 2) := by decide +kernel
theorem dX12_goesOn_449 : decode cX12_goesOn 449 = .ok (.if_icmp .ne 69, 3) := by decide +kernel
theorem dX12_goesOn_452 : decode cX12_goesOn 452 = .ok (.aload_n 0, 1) := by decide +kernel
theorem dX12_goesOn_453 : decode cX12_goesOn 453 = .ok (.bipush 44, 2) := by decide +kernel
theorem dX12_goesOn_455 : decode cX12_goesOn 455 = .ok (.invokevirtual 241, 3) := by decide +kernel
theorem dX12_goesOn_458 : decode cX12_goesOn 458 = .ok (.ifCond .ne 12, 3) := by decide +kernel
theorem dX12_goesOn_461 : decode cX12_goesOn 461 = .ok (.aload_n 0, 1) := by decide +kernel
theorem dX12_goesOn_462 : decode cX12_goesOn 462 = .ok (.iconst 1, 1) := by decide +kernel
theorem dX12_goesOn_463 : decode cX12_goesOn 463 = .ok (.aload_n 0, 1) := by decide +kernel
theorem dX12_goesOn_464 : decode cX12_goesOn 464 = .ok (.getfield 23, 3) := by decide +kernel
theorem dX12_goesOn_467 : decode cX12_goesOn 467 = .ok (.invokevirtual 227, 3) := by decide +kernel
theorem dX12_goesOn_470 : decode cX12_goesOn 470 = .ok (.aload_n 0, 1) := by decide +kernel
theorem dX12_goesOn_471 : decode cX12_goesOn 471 = .ok (.getfield 36, 3) := by decide +kernel
theorem dX12_goesOn_474 : decode cX12_goesOn 474 = .ok (.ifCond .le 5, 3) := by decide +kernel
theorem dX12_goesOn_477 : decode cX12_goesOn 477 = .ok (.iconst 0, 1) := by decide +kernel
theorem dX12_goesOn_478 : decode cX12_goesOn 478 = .ok (.ireturn, 1) := by decide +kernel
theorem dX12_goesOn_479 : decode cX12_goesOn 479 = .ok (.aload_n 0, 1) := by decide +kernel
theorem dX12_goesOn_480 : decode cX12_goesOn 480 = .ok (.iconst 1, 1) := by decide +kernel
theorem dX12_goesOn_481 : decode cX12_goesOn 481 = .ok (.invokevirtual 331, 3) := by decide +kernel
theorem dX12_goesOn_484 : decode cX12_goesOn 484 = .ok (.aload_n 0, 1) := by decide +kernel
theorem dX12_goesOn_485 : decode cX12_goesOn 485 = .ok (.getfield 122, 3) := by decide +kernel
theorem dX12_goesOn_488 : decode cX12_goesOn 488 = .ok (.iload_n 1, 1) := by decide +kernel
theorem dX12_goesOn_489 : decode cX12_goesOn 489 = .ok (.iload_n 2, 1) := by decide +kernel
theorem dX12_goesOn_490 : decode cX12_goesOn 490 = .ok (.iconst 3, 1) := by decide +kernel
theorem dX12_goesOn_491 : decode cX12_goesOn 491 = .ok (.if_icmp .ne 7, 3) := by decide +kernel
theorem dX12_goesOn_494 : decode cX12_goesOn 494 = .ok (.iconst 4, 1) := by decide +kernel
theorem dX12_goesOn_495 : decode cX12_goesOn 495 = .ok (.goto 4, 3) := by decide +kernel
theorem dX12_goesOn_498 : decode cX12_goesOn 498 = .ok (.iconst 3, 1) := by decide +kernel
theorem dX12_goesOn_499 : decode cX12_goesOn 499 = .ok (.iastore, 1) := by decide +kernel
theorem dX12_goesOn_500 : decode cX12_goesOn 500 = .ok (.aload_n 0, 1) := by decide +kernel
theorem dX12_goesOn_501 : decode cX12_goesOn 501 = .ok (.getfield 125, 3) := by decide +kernel
theorem dX12_goesOn_504 : decode cX12_goesOn 504 = .ok (.iload_n 1, 1) := by decide +kernel
theorem dX12_goesOn_505 : decode cX12_goesOn 505 = .ok (.iconst 0, 1) := by decide +kernel
theorem dX12_goesOn_506 : decode cX12_goesOn 506 = .ok (.iastore, 1) := by decide +kernel
theorem dX12_goesOn_507 : decode cX12_goesOn 507 = .ok (.aload_n 0, 1) := by decide +kernel
theorem dX12_goesOn_508 : decode cX12_goesOn 508 = .ok (.invokevirtual 244, 3) := by decide +kernel
theorem dX12_goesOn_511 : decode cX12_goesOn 511 = .ok (.aload_n 0, 1) := by decide +kernel
theorem dX12_goesOn_512 : decode cX12_goesOn 512 = .ok (.iconst 0, 1) := by decide +kernel
theorem dX12_goesOn_513 : decode cX12_goesOn 513 = .ok (.putfield 150, 3) := by decide +kernel
theorem dX12_goesOn_516 : decode cX12_goesOn 516 = .ok (.iconst 1, 1) := by decide +kernel
theorem dX12_goesOn_517 : decode cX12_goesOn 517 = .ok (.ireturn, 1) := by decide +kernel
theorem dX12_goesOn_518 : decode cX12_goesOn 518 = .ok (.aload_n 0, 1) := by decide +kernel
theorem dX12_goesOn_519 : decode cX12_goesOn 519 = .ok (.iload_n 2, 1) := by decide +kernel
theorem dX12_goesOn_520 : decode cX12_goesOn 520 = .ok (.iconst 5, 1) := by decide +kernel
theorem dX12_goesOn_521 : decode cX12_goesOn 521 = .ok (.if_icmp .ne 8, 3) := by decide +kernel
theorem dX12_goesOn_524 : decode cX12_goesOn 524 = .ok (.bipush 93, 2) := by decide +kernel
theorem dX12_goesOn_526 : decode cX12_goesOn 526 = .ok (.goto 5, 3) := by decide +kernel
theorem dX12_goesOn_529 : decode cX12_goesOn 529 = .ok (.bipush 41, 2) := by decide +kernel
theorem dX12_goesOn_531 : decode cX12_goesOn 531 = .ok (.invokevirtual 241, 3) := by decide +kernel
theorem dX12_goesOn_534 : decode cX12_goesOn 534 = .ok (.ifCond .ne 12, 3) := by decide +kernel
theorem dX12_goesOn_537 : decode cX12_goesOn 537 = .ok (.aload_n 0, 1) := by decide +kernel
theorem dX12_goesOn_538 : decode cX12_goesOn 538 = .ok (.iconst 1, 1) := by decide +kernel
theorem dX12_goesOn_539 : decode cX12_goesOn 539 = .ok (.aload_n 0, 1) := by decide +kernel
theorem dX12_goesOn_540 : decode cX12_goesOn 540 = .ok (.getfield 23, 3) := by decide +kernel
theorem dX12_goesOn_543 : decode cX12_goesOn 543 = .ok (.invokevirtual 227, 3) := by decide +kernel
theorem dX12_goesOn_546 : decode cX12_goesOn 546 = .ok (.aload_n 0, 1) := by decide +kernel
theorem dX12_goesOn_547 : decode cX12_goesOn 547 = .ok (.getfield 36, 3) := by decide +kernel
theorem dX12_goesOn_550 : decode cX12_goesOn 550 = .ok (.ifCond .le 5, 3) := by decide +kernel
theorem dX12_goesOn_553 : decode cX12_goesOn 553 = .ok (.iconst 0, 1) := by decide +kernel
theorem dX12_goesOn_554 : decode cX12_goesOn 554 = .ok (.ireturn, 1) := by decide +kernel
theorem dX12_goesOn_555 : decode cX12_goesOn 555 = .ok (.aload_n 0, 1) := by decide +kernel
theorem dX12_goesOn_556 : decode cX12_goesOn 556 = .ok (.iconst 1, 1) := by decide +kernel
theorem dX12_goesOn_557 : decode cX12_goesOn 557 = .ok (.invokevirtual 331, 3) := by decide +kernel
theorem dX12_goesOn_560 : decode cX12_goesOn 560 = .ok (.aload_n 0, 1) := by decide +kernel
theorem dX12_goesOn_561 : decode cX12_goesOn 561 = .ok (.dup, 1) := by decide +kernel
theorem dX12_goesOn_562 : decode cX12_goesOn 562 = .ok (.getfield 138, 3) := by decide +kernel
theorem dX12_goesOn_565 : decode cX12_goesOn 565 = .ok (.iconst 1, 1) := by decide +kernel
theorem dX12_goesOn_566 : decode cX12_goesOn 566 = .ok (.isub, 1) := by decide +kernel
theorem dX12_goesOn_567 : decode cX12_goesOn 567 = .ok (.putfield 138, 3) := by decide +kernel
theorem dX12_goesOn_570 : decode cX12_goesOn 570 = .ok (.aload_n 0, 1) := by decide +kernel
theorem dX12_goesOn_571 : decode cX12_goesOn 571 = .ok (.dup, 1) := by decide +kernel
theorem dX12_goesOn_572 : decode cX12_goesOn 572 = .ok (.getfield 141, 3) := by decide +kernel
theorem dX12_goesOn_575 : decode cX12_goesOn 575 = .ok (.iconst 1, 1) := by decide +kernel
theorem dX12_goesOn_576 : decode cX12_goesOn 576 = .ok (.isub, 1) := by decide +kernel
theorem dX12_goesOn_577 : decode cX12_goesOn 577 = .ok (.putfield 141, 3) := by decide +kernel
theorem dX12_goesOn_580 : decode cX12_goesOn 580 = .ok (.iload_n 2, 1) := by decide +kernel
theorem dX12_goesOn_581 : decode cX12_goesOn 581 = .ok (.iconst 4, 1) := by decide +kernel
theorem dX12_goesOn_582 : decode cX12_goesOn 582 = .ok (.if_icmp .ne 14, 3) := by decide +kernel
theorem dX12_goesOn_585 : decode cX12_goesOn 585 = .ok (.aload_n 0, 1) := by decide +kernel
theorem dX12_goesOn_586 : decode cX12_goesOn 586 = .ok (.aload_n 0, 1) := by decide +kernel
theorem dX12_goesOn_587 : decode cX12_goesOn 587 = .ok (.getfield 132, 3) := by decide +kernel
theorem dX12_goesOn_590 : decode cX12_goesOn 590 = .ok (.iload_n 1, 1) := by decide +kernel
theorem dX12_goesOn_591 : decode cX12_goesOn 591 = .ok (.iaload, 1) := by decide +kernel
theorem dX12_goesOn_592 : decode cX12_goesOn 592 = .ok (.iconst 0, 1) := by decide +kernel
theorem dX12_goesOn_593 : decode cX12_goesOn 593 = .ok (.invokevirtual 312, 3) := by decide +kernel
theorem dX12_goesOn_596 : decode cX12_goesOn 596 = .ok (.iload_n 2, 1) := by decide +kernel
theorem dX12_goesOn_597 : decode cX12_goesOn 597 = .ok (.iconst 5, 1) := by decide +kernel
theorem dX12_goesOn_598 : decode cX12_goesOn 598 = .ok (.if_icmp .ne 15, 3) := by decide +kernel
theorem dX12_goesOn_601 : decode cX12_goesOn 601 = .ok (.aload_n 0, 1) := by decide +kernel
theorem dX12_goesOn_602 : decode cX12_goesOn 602 = .ok (.getfield 125, 3) := by decide +kernel
theorem dX12_goesOn_605 : decode cX12_goesOn 605 = .ok (.aload_n 0, 1) := by decide +kernel
theorem dX12_goesOn_606 : decode cX12_goesOn 606 = .ok (.getfield 138, 3) := by decide +kernel
theorem dX12_goesOn_609 : decode cX12_goesOn 609 = .ok (.iconst 1, 1) := by decide +kernel
theorem dX12_goesOn_610 : decode cX12_goesOn 610 = .ok (.isub, 1) := by decide +kernel
theorem dX12_goesOn_611 : decode cX12_goesOn 611 = .ok (.iconst 2, 1) := by decide +kernel
theorem dX12_goesOn_612 : decode cX12_goesOn 612 = .ok (.iastore, 1) := by decide +kernel
theorem dX12_goesOn_613 : decode cX12_goesOn 613 = .ok (.aload_n 0, 1) := by decide +kernel
theorem dX12_goesOn_614 : decode cX12_goesOn 614 = .ok (.invokevirtual 244, 3) := by decide +kernel
theorem dX12_goesOn_617 : decode cX12_goesOn 617 = .ok (.iconst 1, 1) := by decide +kernel
theorem dX12_goesOn_618 : decode cX12_goesOn 618 = .ok (.ireturn, 1) := by decide +kernel
theorem dX12_reads_0 : decode cX12_reads 0 = .ok (.aload_n 0, 1) := by decide +kernel
theorem dX12_reads_1 : decode cX12_reads 1 = .ok (.getfield 36, 3) := by decide +kernel
theorem dX12_reads_4 : decode cX12_reads 4 = .ok (.ifCond .le 4, 3) := by decide +kernel
theorem dX12_reads_7 : decode cX12_reads 7 = .ok (.return_, 1) := by decide +kernel
theorem dX12_reads_8 : decode cX12_reads 8 = .ok (.aload_n 0, 1) := by decide +kernel
theorem dX12_reads_9 : decode cX12_reads 9 = .ok (.iconst 0, 1) := by decide +kernel
theorem dX12_reads_10 : decode cX12_reads 10 = .ok (.putfield 138, 3) := by decide +kernel
theorem dX12_reads_13 : decode cX12_reads 13 = .ok (.aload_n 0, 1) := by decide +kernel
theorem dX12_reads_14 : decode cX12_reads 14 = .ok (.iconst 0, 1) := by decide +kernel
theorem dX12_reads_15 : decode cX12_reads 15 = .ok (.putfield 141, 3) := by decide +kernel
theorem dX12_reads_18 : decode cX12_reads 18 = .ok (.aload_n 0, 1) := by decide +kernel
theorem dX12_reads_19 : decode cX12_reads 19 = .ok (.iconst 0, 1) := by decide +kernel
theorem dX12_reads_20 : decode cX12_reads 20 = .ok (.putfield 147, 3) := by decide +kernel
theorem dX12_reads_23 : decode cX12_reads 23 = .ok (.aload_n 0, 1) := by decide +kernel
theorem dX12_reads_24 : decode cX12_reads 24 = .ok (.iconst 0, 1) := by decide +kernel
theorem dX12_reads_25 : decode cX12_reads 25 = .ok (.putfield 150, 3) := by decide +kernel
theorem dX12_reads_28 : decode cX12_reads 28 = .ok (.aload_n 0, 1) := by decide +kernel
theorem dX12_reads_29 : decode cX12_reads 29 = .ok (.iload_n 1, 1) := by decide +kernel
theorem dX12_reads_30 : decode cX12_reads 30 = .ok (.ifCond .eq 7, 3) := by decide +kernel
theorem dX12_reads_33 : decode cX12_reads 33 = .ok (.iconst 1, 1) := by decide +kernel
theorem dX12_reads_34 : decode cX12_reads 34 = .ok (.goto 4, 3) := by decide +kernel
theorem dX12_reads_37 : decode cX12_reads 37 = .ok (.iconst 0, 1) := by decide +kernel
theorem dX12_reads_38 : decode cX12_reads 38 = .ok (.invokevirtual 315, 3) := by decide +kernel
theorem dX12_reads_41 : decode cX12_reads 41 = .ok (.iconst 1, 1) := by decide +kernel
theorem dX12_reads_42 : decode cX12_reads 42 = .ok (.istore_n 2, 1) := by decide +kernel
theorem dX12_reads_43 : decode cX12_reads 43 = .ok (.iload_n 2, 1) := by decide +kernel
theorem dX12_reads_44 : decode cX12_reads 44 = .ok (.ifCond .eq 46, 3) := by decide +kernel
theorem dX12_reads_47 : decode cX12_reads 47 = .ok (.aload_n 0, 1) := by decide +kernel
theorem dX12_reads_48 : decode cX12_reads 48 = .ok (.getfield 150, 3) := by decide +kernel
theorem dX12_reads_51 : decode cX12_reads 51 = .ok (.ifCond .ne 14, 3) := by decide +kernel
theorem dX12_reads_54 : decode cX12_reads 54 = .ok (.aload_n 0, 1) := by decide +kernel
theorem dX12_reads_55 : decode cX12_reads 55 = .ok (.aload_n 0, 1) := by decide +kernel
theorem dX12_reads_56 : decode cX12_reads 56 = .ok (.invokevirtual 334, 3) := by decide +kernel
theorem dX12_reads_59 : decode cX12_reads 59 = .ok (.putfield 150, 3) := by decide +kernel
theorem dX12_reads_62 : decode cX12_reads 62 = .ok (.goto 8, 3) := by decide +kernel
theorem dX12_reads_65 : decode cX12_reads 65 = .ok (.aload_n 0, 1) := by decide +kernel
theorem dX12_reads_66 : decode cX12_reads 66 = .ok (.invokevirtual 337, 3) := by decide +kernel
theorem dX12_reads_69 : decode cX12_reads 69 = .ok (.istore_n 2, 1) := by decide +kernel
theorem dX12_reads_70 : decode cX12_reads 70 = .ok (.iload_n 2, 1) := by decide +kernel
theorem dX12_reads_71 : decode cX12_reads 71 = .ok (.ifCond .eq 14, 3) := by decide +kernel
theorem dX12_reads_74 : decode cX12_reads 74 = .ok (.aload_n 0, 1) := by decide +kernel
theorem dX12_reads_75 : decode cX12_reads 75 = .ok (.getfield 36, 3) := by decide +kernel
theorem dX12_reads_78 : decode cX12_reads 78 = .ok (.ifCond .ne 7, 3) := by decide +kernel
theorem dX12_reads_81 : decode cX12_reads 81 = .ok (.iconst 1, 1) := by decide +kernel
theorem dX12_reads_82 : decode cX12_reads 82 = .ok (.goto 4, 3) := by decide +kernel
theorem dX12_reads_85 : decode cX12_reads 85 = .ok (.iconst 0, 1) := by decide +kernel
theorem dX12_reads_86 : decode cX12_reads 86 = .ok (.istore_n 2, 1) := by decide +kernel
theorem dX12_reads_87 : decode cX12_reads 87 = .ok (.goto (-44), 3) := by decide +kernel
theorem dX12_reads_90 : decode cX12_reads 90 = .ok (.return_, 1) := by decide +kernel
theorem dX12_counts_0 : decode cX12_counts 0 = .ok (.aload_n 0, 1) := by decide +kernel
theorem dX12_counts_1 : decode cX12_counts 1 = .ok (.getfield 36, 3) := by decide +kernel
theorem dX12_counts_4 : decode cX12_counts 4 = .ok (.ifCond .ne 17, 3) := by decide +kernel
theorem dX12_counts_7 : decode cX12_counts 7 = .ok (.iload_n 1, 1) := by decide +kernel
theorem dX12_counts_8 : decode cX12_counts 8 = .ok (.ifCond .eq 13, 3) := by decide +kernel
theorem dX12_counts_11 : decode cX12_counts 11 = .ok (.aload_n 0, 1) := by decide +kernel
theorem dX12_counts_12 : decode cX12_counts 12 = .ok (.bipush 6, 2) := by decide +kernel
theorem dX12_counts_14 : decode cX12_counts 14 = .ok (.aload_n 0, 1) := by decide +kernel
theorem dX12_counts_15 : decode cX12_counts 15 = .ok (.getfield 23, 3) := by decide +kernel
theorem dX12_counts_18 : decode cX12_counts 18 = .ok (.invokevirtual 227, 3) := by decide +kernel
theorem dX12_counts_21 : decode cX12_counts 21 = .ok (.aload_n 0, 1) := by decide +kernel
theorem dX12_counts_22 : decode cX12_counts 22 = .ok (.getfield 36, 3) := by decide +kernel
theorem dX12_counts_25 : decode cX12_counts 25 = .ok (.ifCond .ne 7, 3) := by decide +kernel
theorem dX12_counts_28 : decode cX12_counts 28 = .ok (.aload_n 0, 1) := by decide +kernel
theorem dX12_counts_29 : decode cX12_counts 29 = .ok (.invokevirtual 244, 3) := by decide +kernel
theorem dX12_counts_32 : decode cX12_counts 32 = .ok (.aload_n 0, 1) := by decide +kernel
theorem dX12_counts_33 : decode cX12_counts 33 = .ok (.getfield 36, 3) := by decide +kernel
theorem dX12_counts_36 : decode cX12_counts 36 = .ok (.ifCond .ne 7, 3) := by decide +kernel
theorem dX12_counts_39 : decode cX12_counts 39 = .ok (.iconst 1, 1) := by decide +kernel
theorem dX12_counts_40 : decode cX12_counts 40 = .ok (.goto 4, 3) := by decide +kernel
theorem dX12_counts_43 : decode cX12_counts 43 = .ok (.iconst 0, 1) := by decide +kernel
theorem dX12_counts_44 : decode cX12_counts 44 = .ok (.ireturn, 1) := by decide +kernel
theorem dX12_must__0 : decode cX12_must_ 0 = .ok (.aload_n 0, 1) := by decide +kernel
theorem dX12_must__1 : decode cX12_must_ 1 = .ok (.invokevirtual 238, 3) := by decide +kernel
theorem dX12_must__4 : decode cX12_must_ 4 = .ok (.aload_n 0, 1) := by decide +kernel
theorem dX12_must__5 : decode cX12_must_ 5 = .ok (.getfield 36, 3) := by decide +kernel
theorem dX12_must__8 : decode cX12_must_ 8 = .ok (.ifCond .le 4, 3) := by decide +kernel
theorem dX12_must__11 : decode cX12_must_ 11 = .ok (.return_, 1) := by decide +kernel
theorem dX12_must__12 : decode cX12_must_ 12 = .ok (.aload_n 0, 1) := by decide +kernel
theorem dX12_must__13 : decode cX12_must_ 13 = .ok (.lload_n 1, 1) := by decide +kernel
theorem dX12_must__14 : decode cX12_must_ 14 = .ok (.invokevirtual 321, 3) := by decide +kernel
theorem dX12_must__17 : decode cX12_must_ 17 = .ok (.ifCond .ne 12, 3) := by decide +kernel
theorem dX12_must__20 : decode cX12_must_ 20 = .ok (.aload_n 0, 1) := by decide +kernel
theorem dX12_must__21 : decode cX12_must_ 21 = .ok (.iconst 1, 1) := by decide +kernel
theorem dX12_must__22 : decode cX12_must_ 22 = .ok (.aload_n 0, 1) := by decide +kernel
theorem dX12_must__23 : decode cX12_must_ 23 = .ok (.getfield 23, 3) := by decide +kernel
theorem dX12_must__26 : decode cX12_must_ 26 = .ok (.invokevirtual 227, 3) := by decide +kernel
theorem dX12_must__29 : decode cX12_must_ 29 = .ok (.aload_n 0, 1) := by decide +kernel
theorem dX12_must__30 : decode cX12_must_ 30 = .ok (.getfield 36, 3) := by decide +kernel
theorem dX12_must__33 : decode cX12_must_ 33 = .ok (.ifCond .ne 7, 3) := by decide +kernel
theorem dX12_must__36 : decode cX12_must_ 36 = .ok (.aload_n 0, 1) := by decide +kernel
theorem dX12_must__37 : decode cX12_must_ 37 = .ok (.invokevirtual 244, 3) := by decide +kernel
theorem dX12_must__40 : decode cX12_must_ 40 = .ok (.return_, 1) := by decide +kernel
theorem dX12_has2_0 : decode cX12_has2 0 = .ok (.iload_n 0, 1) := by decide +kernel
theorem dX12_has2_1 : decode cX12_has2 1 = .ok (.iload_n 1, 1) := by decide +kernel
theorem dX12_has2_2 : decode cX12_has2 2 = .ok (.ishr, 1) := by decide +kernel
theorem dX12_has2_3 : decode cX12_has2 3 = .ok (.iconst 1, 1) := by decide +kernel
theorem dX12_has2_4 : decode cX12_has2 4 = .ok (.iand, 1) := by decide +kernel
theorem dX12_has2_5 : decode cX12_has2 5 = .ok (.iconst 1, 1) := by decide +kernel
theorem dX12_has2_6 : decode cX12_has2 6 = .ok (.if_icmp .ne 7, 3) := by decide +kernel
theorem dX12_has2_9 : decode cX12_has2 9 = .ok (.iconst 1, 1) := by decide +kernel
theorem dX12_has2_10 : decode cX12_has2 10 = .ok (.goto 4, 3) := by decide +kernel
theorem dX12_has2_13 : decode cX12_has2 13 = .ok (.iconst 0, 1) := by decide +kernel
theorem dX12_has2_14 : decode cX12_has2 14 = .ok (.ireturn, 1) := by decide +kernel
theorem dX12_fresh_0 : decode cX12_fresh 0 = .ok (.aload_n 0, 1) := by decide +kernel
theorem dX12_fresh_1 : decode cX12_fresh 1 = .ok (.invokevirtual 238, 3) := by decide +kernel
theorem dX12_fresh_4 : decode cX12_fresh 4 = .ok (.aload_n 0, 1) := by decide +kernel
theorem dX12_fresh_5 : decode cX12_fresh 5 = .ok (.getfield 36, 3) := by decide +kernel
theorem dX12_fresh_8 : decode cX12_fresh 8 = .ok (.ifCond .le 5, 3) := by decide +kernel
theorem dX12_fresh_11 : decode cX12_fresh 11 = .ok (.lconst 0, 1) := by decide +kernel
theorem dX12_fresh_12 : decode cX12_fresh 12 = .ok (.lreturn, 1) := by decide +kernel
theorem dX12_fresh_13 : decode cX12_fresh 13 = .ok (.aload_n 0, 1) := by decide +kernel
theorem dX12_fresh_14 : decode cX12_fresh 14 = .ok (.getfield 20, 3) := by decide +kernel
theorem dX12_fresh_17 : decode cX12_fresh 17 = .ok (.iconst 1, 1) := by decide +kernel
theorem dX12_fresh_18 : decode cX12_fresh 18 = .ok (.if_icmp .ne 14, 3) := by decide +kernel
theorem dX12_fresh_21 : decode cX12_fresh 21 = .ok (.aload_n 0, 1) := by decide +kernel
theorem dX12_fresh_22 : decode cX12_fresh 22 = .ok (.aload_n 0, 1) := by decide +kernel
theorem dX12_fresh_23 : decode cX12_fresh 23 = .ok (.getfield 32, 3) := by decide +kernel
theorem dX12_fresh_26 : decode cX12_fresh 26 = .ok (.invokevirtual 340, 3) := by decide +kernel
theorem dX12_fresh_29 : decode cX12_fresh 29 = .ok (.ifCond .eq 12, 3) := by decide +kernel
theorem dX12_fresh_32 : decode cX12_fresh 32 = .ok (.aload_n 0, 1) := by decide +kernel
theorem dX12_fresh_33 : decode cX12_fresh 33 = .ok (.iconst 1, 1) := by decide +kernel
theorem dX12_fresh_34 : decode cX12_fresh 34 = .ok (.aload_n 0, 1) := by decide +kernel
theorem dX12_fresh_35 : decode cX12_fresh 35 = .ok (.getfield 23, 3) := by decide +kernel
theorem dX12_fresh_38 : decode cX12_fresh 38 = .ok (.invokevirtual 227, 3) := by decide +kernel
theorem dX12_fresh_41 : decode cX12_fresh 41 = .ok (.iconst 0, 1) := by decide +kernel
theorem dX12_fresh_42 : decode cX12_fresh 42 = .ok (.istore_n 1, 1) := by decide +kernel
theorem dX12_fresh_43 : decode cX12_fresh 43 = .ok (.iload_n 1, 1) := by decide +kernel
theorem dX12_fresh_44 : decode cX12_fresh 44 = .ok (.iconst 2, 1) := by decide +kernel
theorem dX12_fresh_45 : decode cX12_fresh 45 = .ok (.if_icmp .gt 38, 3) := by decide +kernel
theorem dX12_fresh_48 : decode cX12_fresh 48 = .ok (.aload_n 0, 1) := by decide +kernel
theorem dX12_fresh_49 : decode cX12_fresh 49 = .ok (.getfield 36, 3) := by decide +kernel
theorem dX12_fresh_52 : decode cX12_fresh 52 = .ok (.ifCond .ne 31, 3) := by decide +kernel
theorem dX12_fresh_55 : decode cX12_fresh 55 = .ok (.aload_n 0, 1) := by decide +kernel
theorem dX12_fresh_56 : decode cX12_fresh 56 = .ok (.iload_n 1, 1) := by decide +kernel
theorem dX12_fresh_57 : decode cX12_fresh 57 = .ok (.aload_n 0, 1) := by decide +kernel
theorem dX12_fresh_58 : decode cX12_fresh 58 = .ok (.getfield 32, 3) := by decide +kernel
theorem dX12_fresh_61 : decode cX12_fresh 61 = .ok (.invokevirtual 343, 3) := by decide +kernel
theorem dX12_fresh_64 : decode cX12_fresh 64 = .ok (.iconst (-1), 1) := by decide +kernel
theorem dX12_fresh_65 : decode cX12_fresh 65 = .ok (.if_icmp .eq 12, 3) := by decide +kernel
theorem dX12_fresh_68 : decode cX12_fresh 68 = .ok (.aload_n 0, 1) := by decide +kernel
theorem dX12_fresh_69 : decode cX12_fresh 69 = .ok (.iconst 2, 1) := by decide +kernel
theorem dX12_fresh_70 : decode cX12_fresh 70 = .ok (.aload_n 0, 1) := by decide +kernel
theorem dX12_fresh_71 : decode cX12_fresh 71 = .ok (.getfield 23, 3) := by decide +kernel
theorem dX12_fresh_74 : decode cX12_fresh 74 = .ok (.invokevirtual 227, 3) := by decide +kernel
theorem dX12_fresh_77 : decode cX12_fresh 77 = .ok (.iinc 1 1, 3) := by decide +kernel
theorem dX12_fresh_80 : decode cX12_fresh 80 = .ok (.goto (-37), 3) := by decide +kernel
theorem dX12_fresh_83 : decode cX12_fresh 83 = .ok (.aload_n 0, 1) := by decide +kernel
theorem dX12_fresh_84 : decode cX12_fresh 84 = .ok (.getfield 32, 3) := by decide +kernel
theorem dX12_fresh_87 : decode cX12_fresh 87 = .ok (.lstore_n 1, 1) := by decide +kernel
theorem dX12_fresh_88 : decode cX12_fresh 88 = .ok (.aload_n 0, 1) := by decide +kernel
theorem dX12_fresh_89 : decode cX12_fresh 89 = .ok (.getfield 36, 3) := by decide +kernel
theorem dX12_fresh_92 : decode cX12_fresh 92 = .ok (.ifCond .ne 7, 3) := by decide +kernel
theorem dX12_fresh_95 : decode cX12_fresh 95 = .ok (.aload_n 0, 1) := by decide +kernel
theorem dX12_fresh_96 : decode cX12_fresh 96 = .ok (.invokevirtual 244, 3) := by decide +kernel
theorem dX12_fresh_99 : decode cX12_fresh 99 = .ok (.lload_n 1, 1) := by decide +kernel
theorem dX12_fresh_100 : decode cX12_fresh 100 = .ok (.lreturn, 1) := by decide +kernel
theorem dX12_knownBut_0 : decode cX12_knownBut 0 = .ok (.aload_n 0, 1) := by decide +kernel
theorem dX12_knownBut_1 : decode cX12_knownBut 1 = .ok (.invokevirtual 238, 3) := by decide +kernel
theorem dX12_knownBut_4 : decode cX12_knownBut 4 = .ok (.aload_n 0, 1) := by decide +kernel
theorem dX12_knownBut_5 : decode cX12_knownBut 5 = .ok (.getfield 36, 3) := by decide +kernel
theorem dX12_knownBut_8 : decode cX12_knownBut 8 = .ok (.ifCond .le 5, 3) := by decide +kernel
theorem dX12_knownBut_11 : decode cX12_knownBut 11 = .ok (.iconst 0, 1) := by decide +kernel
theorem dX12_knownBut_12 : decode cX12_knownBut 12 = .ok (.ireturn, 1) := by decide +kernel
theorem dX12_knownBut_13 : decode cX12_knownBut 13 = .ok (.aload_n 0, 1) := by decide +kernel
theorem dX12_knownBut_14 : decode cX12_knownBut 14 = .ok (.getfield 20, 3) := by decide +kernel
theorem dX12_knownBut_17 : decode cX12_knownBut 17 = .ok (.iconst 1, 1) := by decide +kernel
theorem dX12_knownBut_18 : decode cX12_knownBut 18 = .ok (.if_icmp .ne 14, 3) := by decide +kernel
theorem dX12_knownBut_21 : decode cX12_knownBut 21 = .ok (.aload_n 0, 1) := by decide +kernel
theorem dX12_knownBut_22 : decode cX12_knownBut 22 = .ok (.aload_n 0, 1) := by decide +kernel
theorem dX12_knownBut_23 : decode cX12_knownBut 23 = .ok (.getfield 32, 3) := by decide +kernel
theorem dX12_knownBut_26 : decode cX12_knownBut 26 = .ok (.invokevirtual 340, 3) := by decide +kernel
theorem dX12_knownBut_29 : decode cX12_knownBut 29 = .ok (.ifCond .eq 12, 3) := by decide +kernel
theorem dX12_knownBut_32 : decode cX12_knownBut 32 = .ok (.aload_n 0, 1) := by decide +kernel
theorem dX12_knownBut_33 : decode cX12_knownBut 33 = .ok (.iconst 1, 1) := by decide +kernel
theorem dX12_knownBut_34 : decode cX12_knownBut 34 = .ok (.aload_n 0, 1) := by decide +kernel
theorem dX12_knownBut_35 : decode cX12_knownBut 35 = .ok (.getfield 23, 3) := by decide +kernel
theorem dX12_knownBut_38 : decode cX12_knownBut 38 = .ok (.invokevirtual 227, 3) := by decide +kernel
theorem dX12_knownBut_41 : decode cX12_knownBut 41 = .ok (.aload_n 0, 1) := by decide +kernel
theorem dX12_knownBut_42 : decode cX12_knownBut 42 = .ok (.getfield 36, 3) := by decide +kernel
theorem dX12_knownBut_45 : decode cX12_knownBut 45 = .ok (.ifCond .le 7, 3) := by decide +kernel
theorem dX12_knownBut_48 : decode cX12_knownBut 48 = .ok (.iconst 0, 1) := by decide +kernel
theorem dX12_knownBut_49 : decode cX12_knownBut 49 = .ok (.goto 12, 3) := by decide +kernel
theorem dX12_knownBut_52 : decode cX12_knownBut 52 = .ok (.aload_n 0, 1) := by decide +kernel
theorem dX12_knownBut_53 : decode cX12_knownBut 53 = .ok (.iload_n 1, 1) := by decide +kernel
theorem dX12_knownBut_54 : decode cX12_knownBut 54 = .ok (.aload_n 0, 1) := by decide +kernel
theorem dX12_knownBut_55 : decode cX12_knownBut 55 = .ok (.getfield 32, 3) := by decide +kernel
theorem dX12_knownBut_58 : decode cX12_knownBut 58 = .ok (.invokevirtual 343, 3) := by decide +kernel
theorem dX12_knownBut_61 : decode cX12_knownBut 61 = .ok (.istore_n 3, 1) := by decide +kernel
theorem dX12_knownBut_62 : decode cX12_knownBut 62 = .ok (.aload_n 0, 1) := by decide +kernel
theorem dX12_knownBut_63 : decode cX12_knownBut 63 = .ok (.getfield 36, 3) := by decide +kernel
theorem dX12_knownBut_66 : decode cX12_knownBut 66 = .ok (.ifCond .ne 25, 3) := by decide +kernel
theorem dX12_knownBut_69 : decode cX12_knownBut 69 = .ok (.iload_n 3, 1) := by decide +kernel
theorem dX12_knownBut_70 : decode cX12_knownBut 70 = .ok (.iconst (-1), 1) := by decide +kernel
theorem dX12_knownBut_71 : decode cX12_knownBut 71 = .ok (.if_icmp .eq 11, 3) := by decide +kernel
theorem dX12_knownBut_74 : decode cX12_knownBut 74 = .ok (.iload_n 2, 1) := by decide +kernel
theorem dX12_knownBut_75 : decode cX12_knownBut 75 = .ok (.iload_n 3, 1) := by decide +kernel
theorem dX12_knownBut_76 : decode cX12_knownBut 76 = .ok (.invokestatic 347, 3) := by decide +kernel
theorem dX12_knownBut_79 : decode cX12_knownBut 79 = .ok (.ifCond .eq 12, 3) := by decide +kernel
theorem dX12_knownBut_82 : decode cX12_knownBut 82 = .ok (.aload_n 0, 1) := by decide +kernel
theorem dX12_knownBut_83 : decode cX12_knownBut 83 = .ok (.iconst 3, 1) := by decide +kernel
theorem dX12_knownBut_84 : decode cX12_knownBut 84 = .ok (.aload_n 0, 1) := by decide +kernel
theorem dX12_knownBut_85 : decode cX12_knownBut 85 = .ok (.getfield 23, 3) := by decide +kernel
theorem dX12_knownBut_88 : decode cX12_knownBut 88 = .ok (.invokevirtual 227, 3) := by decide +kernel
theorem dX12_knownBut_91 : decode cX12_knownBut 91 = .ok (.aload_n 0, 1) := by decide +kernel
theorem dX12_knownBut_92 : decode cX12_knownBut 92 = .ok (.getfield 36, 3) := by decide +kernel
theorem dX12_knownBut_95 : decode cX12_knownBut 95 = .ok (.ifCond .ne 7, 3) := by decide +kernel
theorem dX12_knownBut_98 : decode cX12_knownBut 98 = .ok (.aload_n 0, 1) := by decide +kernel
theorem dX12_knownBut_99 : decode cX12_knownBut 99 = .ok (.invokevirtual 244, 3) := by decide +kernel
theorem dX12_knownBut_102 : decode cX12_knownBut 102 = .ok (.aload_n 0, 1) := by decide +kernel
theorem dX12_knownBut_103 : decode cX12_knownBut 103 = .ok (.getfield 36, 3) := by decide +kernel
theorem dX12_knownBut_106 : decode cX12_knownBut 106 = .ok (.ifCond .le 7, 3) := by decide +kernel
theorem dX12_knownBut_109 : decode cX12_knownBut 109 = .ok (.iconst 0, 1) := by decide +kernel
theorem dX12_knownBut_110 : decode cX12_knownBut 110 = .ok (.goto 4, 3) := by decide +kernel
theorem dX12_knownBut_113 : decode cX12_knownBut 113 = .ok (.iload_n 3, 1) := by decide +kernel
theorem dX12_knownBut_114 : decode cX12_knownBut 114 = .ok (.ireturn, 1) := by decide +kernel
theorem dX12_at_0 : decode cX12_at 0 = .ok (.bipush 25, 2) := by decide +kernel
theorem dX12_at_2 : decode cX12_at 2 = .ok (.iload_n 1, 1) := by decide +kernel
theorem dX12_at_3 : decode cX12_at 3 = .ok (.imul, 1) := by decide +kernel
theorem dX12_at_4 : decode cX12_at 4 = .ok (.iconst 5, 1) := by decide +kernel
theorem dX12_at_5 : decode cX12_at 5 = .ok (.iload_n 2, 1) := by decide +kernel
theorem dX12_at_6 : decode cX12_at 6 = .ok (.imul, 1) := by decide +kernel
theorem dX12_at_7 : decode cX12_at 7 = .ok (.iadd, 1) := by decide +kernel
theorem dX12_at_8 : decode cX12_at 8 = .ok (.iload_n 3, 1) := by decide +kernel
theorem dX12_at_9 : decode cX12_at 9 = .ok (.iadd, 1) := by decide +kernel
theorem dX12_at_10 : decode cX12_at 10 = .ok (.ireturn, 1) := by decide +kernel
theorem dX12_thinging_0 : decode cX12_thinging 0 = .ok (.aload_n 0, 1) := by decide +kernel
theorem dX12_thinging_1 : decode cX12_thinging 1 = .ok (.aload_n 0, 1) := by decide +kernel
theorem dX12_thinging_2 : decode cX12_thinging 2 = .ok (.getfield 54, 3) := by decide +kernel
theorem dX12_thinging_5 : decode cX12_thinging 5 = .ok (.aload_n 0, 1) := by decide +kernel
theorem dX12_thinging_6 : decode cX12_thinging 6 = .ok (.getfield 115, 3) := by decide +kernel
theorem dX12_thinging_9 : decode cX12_thinging 9 = .ok (.iaload, 1) := by decide +kernel
theorem dX12_thinging_10 : decode cX12_thinging 10 = .ok (.bipush 6, 2) := by decide +kernel
theorem dX12_thinging_12 : decode cX12_thinging 12 = .ok (.if_icmp .ne 7, 3) := by decide +kernel
theorem dX12_thinging_15 : decode cX12_thinging 15 = .ok (.iconst 1, 1) := by decide +kernel
theorem dX12_thinging_16 : decode cX12_thinging 16 = .ok (.goto 4, 3) := by decide +kernel
theorem dX12_thinging_19 : decode cX12_thinging 19 = .ok (.iconst 0, 1) := by decide +kernel
theorem dX12_thinging_20 : decode cX12_thinging 20 = .ok (.invokevirtual 351, 3) := by decide +kernel
theorem dX12_thinging_23 : decode cX12_thinging 23 = .ok (.ifCond .ne 4, 3) := by decide +kernel
theorem dX12_thinging_26 : decode cX12_thinging 26 = .ok (.return_, 1) := by decide +kernel
theorem dX12_thinging_27 : decode cX12_thinging 27 = .ok (.bipush 6, 2) := by decide +kernel
theorem dX12_thinging_29 : decode cX12_thinging 29 = .ok (.aload_n 0, 1) := by decide +kernel
theorem dX12_thinging_30 : decode cX12_thinging 30 = .ok (.getfield 115, 3) := by decide +kernel
theorem dX12_thinging_33 : decode cX12_thinging 33 = .ok (.imul, 1) := by decide +kernel
theorem dX12_thinging_34 : decode cX12_thinging 34 = .ok (.aload_n 0, 1) := by decide +kernel
theorem dX12_thinging_35 : decode cX12_thinging 35 = .ok (.getfield 54, 3) := by decide +kernel
theorem dX12_thinging_38 : decode cX12_thinging 38 = .ok (.aload_n 0, 1) := by decide +kernel
theorem dX12_thinging_39 : decode cX12_thinging 39 = .ok (.getfield 115, 3) := by decide +kernel
theorem dX12_thinging_42 : decode cX12_thinging 42 = .ok (.iaload, 1) := by decide +kernel
theorem dX12_thinging_43 : decode cX12_thinging 43 = .ok (.iadd, 1) := by decide +kernel
theorem dX12_thinging_44 : decode cX12_thinging 44 = .ok (.istore_n 1, 1) := by decide +kernel
theorem dX12_thinging_45 : decode cX12_thinging 45 = .ok (.aload_n 0, 1) := by decide +kernel
theorem dX12_thinging_46 : decode cX12_thinging 46 = .ok (.getfield 102, 3) := by decide +kernel
theorem dX12_thinging_49 : decode cX12_thinging 49 = .ok (.iload_n 1, 1) := by decide +kernel
theorem dX12_thinging_50 : decode cX12_thinging 50 = .ok (.aload_n 0, 1) := by decide +kernel
theorem dX12_thinging_51 : decode cX12_thinging 51 = .ok (.invokevirtual 355, 3) := by decide +kernel
theorem dX12_thinging_54 : decode cX12_thinging 54 = .ok (.lastore, 1) := by decide +kernel
theorem dX12_thinging_55 : decode cX12_thinging 55 = .ok (.aload_n 0, 1) := by decide +kernel
theorem dX12_thinging_56 : decode cX12_thinging 56 = .ok (.ldc2_w 249, 3) := by decide +kernel
theorem dX12_thinging_59 : decode cX12_thinging 59 = .ok (.invokevirtual 359, 3) := by decide +kernel
theorem dX12_thinging_62 : decode cX12_thinging 62 = .ok (.aload_n 0, 1) := by decide +kernel
theorem dX12_thinging_63 : decode cX12_thinging 63 = .ok (.getfield 57, 3) := by decide +kernel
theorem dX12_thinging_66 : decode cX12_thinging 66 = .ok (.iload_n 1, 1) := by decide +kernel
theorem dX12_thinging_67 : decode cX12_thinging 67 = .ok (.aload_n 0, 1) := by decide +kernel
theorem dX12_thinging_68 : decode cX12_thinging 68 = .ok (.iconst 0, 1) := by decide +kernel
theorem dX12_thinging_69 : decode cX12_thinging 69 = .ok (.bipush 99, 2) := by decide +kernel
theorem dX12_thinging_71 : decode cX12_thinging 71 = .ok (.invokevirtual 363, 3) := by decide +kernel
theorem dX12_thinging_74 : decode cX12_thinging 74 = .ok (.iastore, 1) := by decide +kernel
theorem dX12_thinging_75 : decode cX12_thinging 75 = .ok (.aload_n 0, 1) := by decide +kernel
theorem dX12_thinging_76 : decode cX12_thinging 76 = .ok (.ldc2_w 251, 3) := by decide +kernel
theorem dX12_thinging_79 : decode cX12_thinging 79 = .ok (.invokevirtual 359, 3) := by decide +kernel
theorem dX12_thinging_82 : decode cX12_thinging 82 = .ok (.aload_n 0, 1) := by decide +kernel
theorem dX12_thinging_83 : decode cX12_thinging 83 = .ok (.getfield 60, 3) := by decide +kernel
theorem dX12_thinging_86 : decode cX12_thinging 86 = .ok (.iload_n 1, 1) := by decide +kernel
theorem dX12_thinging_87 : decode cX12_thinging 87 = .ok (.aload_n 0, 1) := by decide +kernel
theorem dX12_thinging_88 : decode cX12_thinging 88 = .ok (.iconst 1, 1) := by decide +kernel
theorem dX12_thinging_89 : decode cX12_thinging 89 = .ok (.bipush 99, 2) := by decide +kernel
theorem dX12_thinging_91 : decode cX12_thinging 91 = .ok (.invokevirtual 363, 3) := by decide +kernel
theorem dX12_thinging_94 : decode cX12_thinging 94 = .ok (.iastore, 1) := by decide +kernel
theorem dX12_thinging_95 : decode cX12_thinging 95 = .ok (.aload_n 0, 1) := by decide +kernel
theorem dX12_thinging_96 : decode cX12_thinging 96 = .ok (.getfield 36, 3) := by decide +kernel
theorem dX12_thinging_99 : decode cX12_thinging 99 = .ok (.ifCond .ne 16, 3) := by decide +kernel
theorem dX12_thinging_102 : decode cX12_thinging 102 = .ok (.aload_n 0, 1) := by decide +kernel
theorem dX12_thinging_103 : decode cX12_thinging 103 = .ok (.getfield 54, 3) := by decide +kernel
theorem dX12_thinging_106 : decode cX12_thinging 106 = .ok (.aload_n 0, 1) := by decide +kernel
theorem dX12_thinging_107 : decode cX12_thinging 107 = .ok (.getfield 115, 3) := by decide +kernel
theorem dX12_thinging_110 : decode cX12_thinging 110 = .ok (.dup2, 1) := by decide +kernel
theorem dX12_thinging_111 : decode cX12_thinging 111 = .ok (.iaload, 1) := by decide +kernel
theorem dX12_thinging_112 : decode cX12_thinging 112 = .ok (.iconst 1, 1) := by decide +kernel
theorem dX12_thinging_113 : decode cX12_thinging 113 = .ok (.iadd, 1) := by decide +kernel
theorem dX12_thinging_114 : decode cX12_thinging 114 = .ok (.iastore, 1) := by decide +kernel
theorem dX12_thinging_115 : decode cX12_thinging 115 = .ok (.return_, 1) := by decide +kernel
theorem dX12_cornering_0 : decode cX12_cornering 0 = .ok (.aload_n 0, 1) := by decide +kernel
theorem dX12_cornering_1 : decode cX12_cornering 1 = .ok (.aload_n 0, 1) := by decide +kernel
theorem dX12_cornering_2 : decode cX12_cornering 2 = .ok (.getfield 63, 3) := by decide +kernel
theorem dX12_cornering_5 : decode cX12_cornering 5 = .ok (.aload_n 0, 1) := by decide +kernel
theorem dX12_cornering_6 : decode cX12_cornering 6 = .ok (.getfield 115, 3) := by decide +kernel
theorem dX12_cornering_9 : decode cX12_cornering 9 = .ok (.iaload, 1) := by decide +kernel
theorem dX12_cornering_10 : decode cX12_cornering 10 = .ok (.iconst 5, 1) := by decide +kernel
theorem dX12_cornering_11 : decode cX12_cornering 11 = .ok (.if_icmp .ne 7, 3) := by decide +kernel
theorem dX12_cornering_14 : decode cX12_cornering 14 = .ok (.iconst 1, 1) := by decide +kernel
theorem dX12_cornering_15 : decode cX12_cornering 15 = .ok (.goto 4, 3) := by decide +kernel
theorem dX12_cornering_18 : decode cX12_cornering 18 = .ok (.iconst 0, 1) := by decide +kernel
theorem dX12_cornering_19 : decode cX12_cornering 19 = .ok (.invokevirtual 351, 3) := by decide +kernel
theorem dX12_cornering_22 : decode cX12_cornering 22 = .ok (.ifCond .ne 4, 3) := by decide +kernel
theorem dX12_cornering_25 : decode cX12_cornering 25 = .ok (.return_, 1) := by decide +kernel
theorem dX12_cornering_26 : decode cX12_cornering 26 = .ok (.aload_n 0, 1) := by decide +kernel
theorem dX12_cornering_27 : decode cX12_cornering 27 = .ok (.getfield 106, 3) := by decide +kernel
theorem dX12_cornering_30 : decode cX12_cornering 30 = .ok (.iconst 5, 1) := by decide +kernel
theorem dX12_cornering_31 : decode cX12_cornering 31 = .ok (.aload_n 0, 1) := by decide +kernel
theorem dX12_cornering_32 : decode cX12_cornering 32 = .ok (.getfield 115, 3) := by decide +kernel
theorem dX12_cornering_35 : decode cX12_cornering 35 = .ok (.imul, 1) := by decide +kernel
theorem dX12_cornering_36 : decode cX12_cornering 36 = .ok (.aload_n 0, 1) := by decide +kernel
theorem dX12_cornering_37 : decode cX12_cornering 37 = .ok (.getfield 63, 3) := by decide +kernel
theorem dX12_cornering_40 : decode cX12_cornering 40 = .ok (.aload_n 0, 1) := by decide +kernel
theorem dX12_cornering_41 : decode cX12_cornering 41 = .ok (.getfield 115, 3) := by decide +kernel
theorem dX12_cornering_44 : decode cX12_cornering 44 = .ok (.iaload, 1) := by decide +kernel
theorem dX12_cornering_45 : decode cX12_cornering 45 = .ok (.iadd, 1) := by decide +kernel
theorem dX12_cornering_46 : decode cX12_cornering 46 = .ok (.aload_n 0, 1) := by decide +kernel
theorem dX12_cornering_47 : decode cX12_cornering 47 = .ok (.invokevirtual 355, 3) := by decide +kernel
theorem dX12_cornering_50 : decode cX12_cornering 50 = .ok (.lastore, 1) := by decide +kernel
theorem dX12_cornering_51 : decode cX12_cornering 51 = .ok (.aload_n 0, 1) := by decide +kernel
theorem dX12_cornering_52 : decode cX12_cornering 52 = .ok (.getfield 66, 3) := by decide +kernel
theorem dX12_cornering_55 : decode cX12_cornering 55 = .ok (.iconst 5, 1) := by decide +kernel
theorem dX12_cornering_56 : decode cX12_cornering 56 = .ok (.aload_n 0, 1) := by decide +kernel
theorem dX12_cornering_57 : decode cX12_cornering 57 = .ok (.getfield 115, 3) := by decide +kernel
theorem dX12_cornering_60 : decode cX12_cornering 60 = .ok (.imul, 1) := by decide +kernel
theorem dX12_cornering_61 : decode cX12_cornering 61 = .ok (.aload_n 0, 1) := by decide +kernel
theorem dX12_cornering_62 : decode cX12_cornering 62 = .ok (.getfield 63, 3) := by decide +kernel
theorem dX12_cornering_65 : decode cX12_cornering 65 = .ok (.aload_n 0, 1) := by decide +kernel
theorem dX12_cornering_66 : decode cX12_cornering 66 = .ok (.getfield 115, 3) := by decide +kernel
theorem dX12_cornering_69 : decode cX12_cornering 69 = .ok (.iaload, 1) := by decide +kernel
theorem dX12_cornering_70 : decode cX12_cornering 70 = .ok (.iadd, 1) := by decide +kernel
theorem dX12_cornering_71 : decode cX12_cornering 71 = .ok (.iconst (-1), 1) := by decide +kernel
theorem dX12_cornering_72 : decode cX12_cornering 72 = .ok (.iastore, 1) := by decide +kernel
theorem dX12_cornering_73 : decode cX12_cornering 73 = .ok (.aload_n 0, 1) := by decide +kernel
theorem dX12_cornering_74 : decode cX12_cornering 74 = .ok (.getfield 36, 3) := by decide +kernel
theorem dX12_cornering_77 : decode cX12_cornering 77 = .ok (.ifCond .ne 16, 3) := by decide +kernel
theorem dX12_cornering_80 : decode cX12_cornering 80 = .ok (.aload_n 0, 1) := by decide +kernel
theorem dX12_cornering_81 : decode cX12_cornering 81 = .ok (.getfield 63, 3) := by decide +kernel
theorem dX12_cornering_84 : decode cX12_cornering 84 = .ok (.aload_n 0, 1) := by decide +kernel
theorem dX12_cornering_85 : decode cX12_cornering 85 = .ok (.getfield 115, 3) := by decide +kernel
theorem dX12_cornering_88 : decode cX12_cornering 88 = .ok (.dup2, 1) := by decide +kernel
theorem dX12_cornering_89 : decode cX12_cornering 89 = .ok (.iaload, 1) := by decide +kernel
theorem dX12_cornering_90 : decode cX12_cornering 90 = .ok (.iconst 1, 1) := by decide +kernel
theorem dX12_cornering_91 : decode cX12_cornering 91 = .ok (.iadd, 1) := by decide +kernel
theorem dX12_cornering_92 : decode cX12_cornering 92 = .ok (.iastore, 1) := by decide +kernel
theorem dX12_cornering_93 : decode cX12_cornering 93 = .ok (.return_, 1) := by decide +kernel
theorem dX12_roading_0 : decode cX12_roading 0 = .ok (.aload_n 0, 1) := by decide +kernel
theorem dX12_roading_1 : decode cX12_roading 1 = .ok (.aload_n 0, 1) := by decide +kernel
theorem dX12_roading_2 : decode cX12_roading 2 = .ok (.getfield 69, 3) := by decide +kernel
theorem dX12_roading_5 : decode cX12_roading 5 = .ok (.aload_n 0, 1) := by decide +kernel
theorem dX12_roading_6 : decode cX12_roading 6 = .ok (.getfield 115, 3) := by decide +kernel
theorem dX12_roading_9 : decode cX12_roading 9 = .ok (.iaload, 1) := by decide +kernel
theorem dX12_roading_10 : decode cX12_roading 10 = .ok (.bipush 10, 2) := by decide +kernel
theorem dX12_roading_12 : decode cX12_roading 12 = .ok (.if_icmp .ne 7, 3) := by decide +kernel
theorem dX12_roading_15 : decode cX12_roading 15 = .ok (.iconst 1, 1) := by decide +kernel
theorem dX12_roading_16 : decode cX12_roading 16 = .ok (.goto 4, 3) := by decide +kernel
theorem dX12_roading_19 : decode cX12_roading 19 = .ok (.iconst 0, 1) := by decide +kernel
theorem dX12_roading_20 : decode cX12_roading 20 = .ok (.invokevirtual 351, 3) := by decide +kernel
theorem dX12_roading_23 : decode cX12_roading 23 = .ok (.ifCond .ne 4, 3) := by decide +kernel
theorem dX12_roading_26 : decode cX12_roading 26 = .ok (.return_, 1) := by decide +kernel
theorem dX12_roading_27 : decode cX12_roading 27 = .ok (.aload_n 0, 1) := by decide +kernel
theorem dX12_roading_28 : decode cX12_roading 28 = .ok (.iconst 1, 1) := by decide +kernel
theorem dX12_roading_29 : decode cX12_roading 29 = .ok (.iconst 0, 1) := by decide +kernel
theorem dX12_roading_30 : decode cX12_roading 30 = .ok (.invokevirtual 366, 3) := by decide +kernel
theorem dX12_roading_33 : decode cX12_roading 33 = .ok (.istore_n 1, 1) := by decide +kernel
theorem dX12_roading_34 : decode cX12_roading 34 = .ok (.aload_n 0, 1) := by decide +kernel
theorem dX12_roading_35 : decode cX12_roading 35 = .ok (.ldc2_w 257, 3) := by decide +kernel
theorem dX12_roading_38 : decode cX12_roading 38 = .ok (.invokevirtual 359, 3) := by decide +kernel
theorem dX12_roading_41 : decode cX12_roading 41 = .ok (.iconst 1, 1) := by decide +kernel
theorem dX12_roading_42 : decode cX12_roading 42 = .ok (.iload_n 1, 1) := by decide +kernel
theorem dX12_roading_43 : decode cX12_roading 43 = .ok (.ishl, 1) := by decide +kernel
theorem dX12_roading_44 : decode cX12_roading 44 = .ok (.istore_n 2, 1) := by decide +kernel
theorem dX12_roading_45 : decode cX12_roading 45 = .ok (.iconst 0, 1) := by decide +kernel
theorem dX12_roading_46 : decode cX12_roading 46 = .ok (.istore_n 3, 1) := by decide +kernel
theorem dX12_roading_47 : decode cX12_roading 47 = .ok (.iload_n 3, 1) := by decide +kernel
theorem dX12_roading_48 : decode cX12_roading 48 = .ok (.iconst 5, 1) := by decide +kernel
theorem dX12_roading_49 : decode cX12_roading 49 = .ok (.if_icmp .ge 37, 3) := by decide +kernel
theorem dX12_roading_52 : decode cX12_roading 52 = .ok (.iload_n 2, 1) := by decide +kernel
theorem dX12_roading_53 : decode cX12_roading 53 = .ok (.aload_n 0, 1) := by decide +kernel
theorem dX12_roading_54 : decode cX12_roading 54 = .ok (.getfield 72, 3) := by decide +kernel
theorem dX12_roading_57 : decode cX12_roading 57 = .ok (.aload_n 0, 1) := by decide +kernel
theorem dX12_roading_58 : decode cX12_roading 58 = .ok (.aload_n 0, 1) := by decide +kernel
theorem dX12_roading_59 : decode cX12_roading 59 = .ok (.getfield 115, 3) := by decide +kernel
theorem dX12_roading_62 : decode cX12_roading 62 = .ok (.iload_n 1, 1) := by decide +kernel
theorem dX12_roading_63 : decode cX12_roading 63 = .ok (.iload_n 3, 1) := by decide +kernel
theorem dX12_roading_64 : decode cX12_roading 64 = .ok (.invokevirtual 369, 3) := by decide +kernel
theorem dX12_roading_67 : decode cX12_roading 67 = .ok (.iaload, 1) := by decide +kernel
theorem dX12_roading_68 : decode cX12_roading 68 = .ok (.ifCond .le 9, 3) := by decide +kernel
theorem dX12_roading_71 : decode cX12_roading 71 = .ok (.iconst 1, 1) := by decide +kernel
theorem dX12_roading_72 : decode cX12_roading 72 = .ok (.iload_n 3, 1) := by decide +kernel
theorem dX12_roading_73 : decode cX12_roading 73 = .ok (.ishl, 1) := by decide +kernel
theorem dX12_roading_74 : decode cX12_roading 74 = .ok (.goto 4, 3) := by decide +kernel
theorem dX12_roading_77 : decode cX12_roading 77 = .ok (.iconst 0, 1) := by decide +kernel
theorem dX12_roading_78 : decode cX12_roading 78 = .ok (.ior, 1) := by decide +kernel
theorem dX12_roading_79 : decode cX12_roading 79 = .ok (.istore_n 2, 1) := by decide +kernel
theorem dX12_roading_80 : decode cX12_roading 80 = .ok (.iinc 3 1, 3) := by decide +kernel
theorem dX12_roading_83 : decode cX12_roading 83 = .ok (.goto (-36), 3) := by decide +kernel
theorem dX12_roading_86 : decode cX12_roading 86 = .ok (.aload_n 0, 1) := by decide +kernel
theorem dX12_roading_87 : decode cX12_roading 87 = .ok (.iconst 1, 1) := by decide +kernel
theorem dX12_roading_88 : decode cX12_roading 88 = .ok (.iload_n 2, 1) := by decide +kernel
theorem dX12_roading_89 : decode cX12_roading 89 = .ok (.invokevirtual 366, 3) := by decide +kernel
theorem dX12_roading_92 : decode cX12_roading 92 = .ok (.istore_n 3, 1) := by decide +kernel
theorem dX12_roading_93 : decode cX12_roading 93 = .ok (.aload_n 0, 1) := by decide +kernel
theorem dX12_roading_94 : decode cX12_roading 94 = .ok (.ldc2_w 259, 3) := by decide +kernel
theorem dX12_roading_97 : decode cX12_roading 97 = .ok (.invokevirtual 359, 3) := by decide +kernel
theorem dX12_roading_100 : decode cX12_roading 100 = .ok (.aload_n 0, 1) := by decide +kernel
theorem dX12_roading_101 : decode cX12_roading 101 = .ok (.iconst 1, 1) := by decide +kernel
theorem dX12_roading_102 : decode cX12_roading 102 = .ok (.bipush 30, 2) := by decide +kernel
theorem dX12_roading_104 : decode cX12_roading 104 = .ok (.invokevirtual 363, 3) := by decide +kernel
theorem dX12_roading_107 : decode cX12_roading 107 = .ok (.istore 4, 2) := by decide +kernel
theorem dX12_roading_109 : decode cX12_roading 109 = .ok (.aload_n 0, 1) := by decide +kernel
theorem dX12_roading_110 : decode cX12_roading 110 = .ok (.getfield 36, 3) := by decide +kernel
theorem dX12_roading_113 : decode cX12_roading 113 = .ok (.ifCond .le 4, 3) := by decide +kernel
theorem dX12_roading_116 : decode cX12_roading 116 = .ok (.return_, 1) := by decide +kernel
theorem dX12_roading_117 : decode cX12_roading 117 = .ok (.aload_n 0, 1) := by decide +kernel
theorem dX12_roading_118 : decode cX12_roading 118 = .ok (.getfield 72, 3) := by decide +kernel
theorem dX12_roading_121 : decode cX12_roading 121 = .ok (.aload_n 0, 1) := by decide +kernel
theorem dX12_roading_122 : decode cX12_roading 122 = .ok (.aload_n 0, 1) := by decide +kernel
theorem dX12_roading_123 : decode cX12_roading 123 = .ok (.getfield 115, 3) := by decide +kernel
theorem dX12_roading_126 : decode cX12_roading 126 = .ok (.iload_n 1, 1) := by decide +kernel
theorem dX12_roading_127 : decode cX12_roading 127 = .ok (.iload_n 3, 1) := by decide +kernel
theorem dX12_roading_128 : decode cX12_roading 128 = .ok (.invokevirtual 369, 3) := by decide +kernel
theorem dX12_roading_131 : decode cX12_roading 131 = .ok (.iload 4, 2) := by decide +kernel
theorem dX12_roading_133 : decode cX12_roading 133 = .ok (.iastore, 1) := by decide +kernel
theorem dX12_roading_134 : decode cX12_roading 134 = .ok (.aload_n 0, 1) := by decide +kernel
theorem dX12_roading_135 : decode cX12_roading 135 = .ok (.getfield 72, 3) := by decide +kernel
theorem dX12_roading_138 : decode cX12_roading 138 = .ok (.aload_n 0, 1) := by decide +kernel
theorem dX12_roading_139 : decode cX12_roading 139 = .ok (.aload_n 0, 1) := by decide +kernel
theorem dX12_roading_140 : decode cX12_roading 140 = .ok (.getfield 115, 3) := by decide +kernel
theorem dX12_roading_143 : decode cX12_roading 143 = .ok (.iload_n 3, 1) := by decide +kernel
theorem dX12_roading_144 : decode cX12_roading 144 = .ok (.iload_n 1, 1) := by decide +kernel
theorem dX12_roading_145 : decode cX12_roading 145 = .ok (.invokevirtual 369, 3) := by decide +kernel
theorem dX12_roading_148 : decode cX12_roading 148 = .ok (.iload 4, 2) := by decide +kernel
theorem dX12_roading_150 : decode cX12_roading 150 = .ok (.iastore, 1) := by decide +kernel
theorem dX12_roading_151 : decode cX12_roading 151 = .ok (.aload_n 0, 1) := by decide +kernel
theorem dX12_roading_152 : decode cX12_roading 152 = .ok (.getfield 69, 3) := by decide +kernel
theorem dX12_roading_155 : decode cX12_roading 155 = .ok (.aload_n 0, 1) := by decide +kernel
theorem dX12_roading_156 : decode cX12_roading 156 = .ok (.getfield 115, 3) := by decide +kernel
theorem dX12_roading_159 : decode cX12_roading 159 = .ok (.dup2, 1) := by decide +kernel
theorem dX12_roading_160 : decode cX12_roading 160 = .ok (.iaload, 1) := by decide +kernel
theorem dX12_roading_161 : decode cX12_roading 161 = .ok (.iconst 1, 1) := by decide +kernel
theorem dX12_roading_162 : decode cX12_roading 162 = .ok (.iadd, 1) := by decide +kernel
theorem dX12_roading_163 : decode cX12_roading 163 = .ok (.iastore, 1) := by decide +kernel
theorem dX12_roading_164 : decode cX12_roading 164 = .ok (.return_, 1) := by decide +kernel
theorem dX12_palming_0 : decode cX12_palming 0 = .ok (.aload_n 0, 1) := by decide +kernel
theorem dX12_palming_1 : decode cX12_palming 1 = .ok (.iconst 0, 1) := by decide +kernel
theorem dX12_palming_2 : decode cX12_palming 2 = .ok (.invokevirtual 351, 3) := by decide +kernel
theorem dX12_palming_5 : decode cX12_palming 5 = .ok (.ifCond .ne 4, 3) := by decide +kernel
theorem dX12_palming_8 : decode cX12_palming 8 = .ok (.return_, 1) := by decide +kernel
theorem dX12_palming_9 : decode cX12_palming 9 = .ok (.iconst 0, 1) := by decide +kernel
theorem dX12_palming_10 : decode cX12_palming 10 = .ok (.istore_n 1, 1) := by decide +kernel
theorem dX12_palming_11 : decode cX12_palming 11 = .ok (.iconst 0, 1) := by decide +kernel
theorem dX12_palming_12 : decode cX12_palming 12 = .ok (.istore_n 2, 1) := by decide +kernel
theorem dX12_palming_13 : decode cX12_palming 13 = .ok (.iload_n 2, 1) := by decide +kernel
theorem dX12_palming_14 : decode cX12_palming 14 = .ok (.aload_n 0, 1) := by decide +kernel
theorem dX12_palming_15 : decode cX12_palming 15 = .ok (.getfield 63, 3) := by decide +kernel
theorem dX12_palming_18 : decode cX12_palming 18 = .ok (.aload_n 0, 1) := by decide +kernel
theorem dX12_palming_19 : decode cX12_palming 19 = .ok (.getfield 115, 3) := by decide +kernel
theorem dX12_palming_22 : decode cX12_palming 22 = .ok (.iaload, 1) := by decide +kernel
theorem dX12_palming_23 : decode cX12_palming 23 = .ok (.if_icmp .ge 36, 3) := by decide +kernel
theorem dX12_palming_26 : decode cX12_palming 26 = .ok (.iload_n 1, 1) := by decide +kernel
theorem dX12_palming_27 : decode cX12_palming 27 = .ok (.aload_n 0, 1) := by decide +kernel
theorem dX12_palming_28 : decode cX12_palming 28 = .ok (.getfield 66, 3) := by decide +kernel
theorem dX12_palming_31 : decode cX12_palming 31 = .ok (.iconst 5, 1) := by decide +kernel
theorem dX12_palming_32 : decode cX12_palming 32 = .ok (.aload_n 0, 1) := by decide +kernel
theorem dX12_palming_33 : decode cX12_palming 33 = .ok (.getfield 115, 3) := by decide +kernel
theorem dX12_palming_36 : decode cX12_palming 36 = .ok (.imul, 1) := by decide +kernel
theorem dX12_palming_37 : decode cX12_palming 37 = .ok (.iload_n 2, 1) := by decide +kernel
theorem dX12_palming_38 : decode cX12_palming 38 = .ok (.iadd, 1) := by decide +kernel
theorem dX12_palming_39 : decode cX12_palming 39 = .ok (.iaload, 1) := by decide +kernel
theorem dX12_palming_40 : decode cX12_palming 40 = .ok (.iconst (-1), 1) := by decide +kernel
theorem dX12_palming_41 : decode cX12_palming 41 = .ok (.if_icmp .eq 9, 3) := by decide +kernel
theorem dX12_palming_44 : decode cX12_palming 44 = .ok (.iconst 1, 1) := by decide +kernel
theorem dX12_palming_45 : decode cX12_palming 45 = .ok (.iload_n 2, 1) := by decide +kernel
theorem dX12_palming_46 : decode cX12_palming 46 = .ok (.ishl, 1) := by decide +kernel
theorem dX12_palming_47 : decode cX12_palming 47 = .ok (.goto 4, 3) := by decide +kernel
theorem dX12_palming_50 : decode cX12_palming 50 = .ok (.iconst 0, 1) := by decide +kernel
theorem dX12_palming_51 : decode cX12_palming 51 = .ok (.ior, 1) := by decide +kernel
theorem dX12_palming_52 : decode cX12_palming 52 = .ok (.istore_n 1, 1) := by decide +kernel
theorem dX12_palming_53 : decode cX12_palming 53 = .ok (.iinc 2 1, 3) := by decide +kernel
theorem dX12_palming_56 : decode cX12_palming 56 = .ok (.goto (-43), 3) := by decide +kernel
theorem dX12_palming_59 : decode cX12_palming 59 = .ok (.aload_n 0, 1) := by decide +kernel
theorem dX12_palming_60 : decode cX12_palming 60 = .ok (.iconst 1, 1) := by decide +kernel
theorem dX12_palming_61 : decode cX12_palming 61 = .ok (.iload_n 1, 1) := by decide +kernel
theorem dX12_palming_62 : decode cX12_palming 62 = .ok (.invokevirtual 366, 3) := by decide +kernel
theorem dX12_palming_65 : decode cX12_palming 65 = .ok (.istore_n 2, 1) := by decide +kernel
theorem dX12_palming_66 : decode cX12_palming 66 = .ok (.aload_n 0, 1) := by decide +kernel
theorem dX12_palming_67 : decode cX12_palming 67 = .ok (.ldc2_w 263, 3) := by decide +kernel
theorem dX12_palming_70 : decode cX12_palming 70 = .ok (.invokevirtual 359, 3) := by decide +kernel
theorem dX12_palming_73 : decode cX12_palming 73 = .ok (.aload_n 0, 1) := by decide +kernel
theorem dX12_palming_74 : decode cX12_palming 74 = .ok (.iconst 0, 1) := by decide +kernel
theorem dX12_palming_75 : decode cX12_palming 75 = .ok (.iconst 0, 1) := by decide +kernel
theorem dX12_palming_76 : decode cX12_palming 76 = .ok (.invokevirtual 366, 3) := by decide +kernel
theorem dX12_palming_79 : decode cX12_palming 79 = .ok (.istore_n 3, 1) := by decide +kernel
theorem dX12_palming_80 : decode cX12_palming 80 = .ok (.aload_n 0, 1) := by decide +kernel
theorem dX12_palming_81 : decode cX12_palming 81 = .ok (.getfield 36, 3) := by decide +kernel
theorem dX12_palming_84 : decode cX12_palming 84 = .ok (.ifCond .ne 17, 3) := by decide +kernel
theorem dX12_palming_87 : decode cX12_palming 87 = .ok (.aload_n 0, 1) := by decide +kernel
theorem dX12_palming_88 : decode cX12_palming 88 = .ok (.getfield 66, 3) := by decide +kernel
theorem dX12_palming_91 : decode cX12_palming 91 = .ok (.iconst 5, 1) := by decide +kernel
theorem dX12_palming_92 : decode cX12_palming 92 = .ok (.aload_n 0, 1) := by decide +kernel
theorem dX12_palming_93 : decode cX12_palming 93 = .ok (.getfield 115, 3) := by decide +kernel
theorem dX12_palming_96 : decode cX12_palming 96 = .ok (.imul, 1) := by decide +kernel
theorem dX12_palming_97 : decode cX12_palming 97 = .ok (.iload_n 2, 1) := by decide +kernel
theorem dX12_palming_98 : decode cX12_palming 98 = .ok (.iadd, 1) := by decide +kernel
theorem dX12_palming_99 : decode cX12_palming 99 = .ok (.iload_n 3, 1) := by decide +kernel
theorem dX12_palming_100 : decode cX12_palming 100 = .ok (.iastore, 1) := by decide +kernel
theorem dX12_palming_101 : decode cX12_palming 101 = .ok (.return_, 1) := by decide +kernel
theorem dX12_doings_0 : decode cX12_doings 0 = .ok (.aload_n 0, 1) := by decide +kernel
theorem dX12_doings_1 : decode cX12_doings 1 = .ok (.aload_n 0, 1) := by decide +kernel
theorem dX12_doings_2 : decode cX12_doings 2 = .ok (.getfield 78, 3) := by decide +kernel
theorem dX12_doings_5 : decode cX12_doings 5 = .ok (.aload_n 0, 1) := by decide +kernel
theorem dX12_doings_6 : decode cX12_doings 6 = .ok (.getfield 115, 3) := by decide +kernel
theorem dX12_doings_9 : decode cX12_doings 9 = .ok (.iaload, 1) := by decide +kernel
theorem dX12_doings_10 : decode cX12_doings 10 = .ok (.bipush 6, 2) := by decide +kernel
theorem dX12_doings_12 : decode cX12_doings 12 = .ok (.if_icmp .ne 7, 3) := by decide +kernel
theorem dX12_doings_15 : decode cX12_doings 15 = .ok (.iconst 1, 1) := by decide +kernel
theorem dX12_doings_16 : decode cX12_doings 16 = .ok (.goto 4, 3) := by decide +kernel
theorem dX12_doings_19 : decode cX12_doings 19 = .ok (.iconst 0, 1) := by decide +kernel
theorem dX12_doings_20 : decode cX12_doings 20 = .ok (.invokevirtual 351, 3) := by decide +kernel
theorem dX12_doings_23 : decode cX12_doings 23 = .ok (.ifCond .ne 4, 3) := by decide +kernel
theorem dX12_doings_26 : decode cX12_doings 26 = .ok (.return_, 1) := by decide +kernel
theorem dX12_doings_27 : decode cX12_doings 27 = .ok (.bipush 6, 2) := by decide +kernel
theorem dX12_doings_29 : decode cX12_doings 29 = .ok (.aload_n 0, 1) := by decide +kernel
theorem dX12_doings_30 : decode cX12_doings 30 = .ok (.getfield 115, 3) := by decide +kernel
theorem dX12_doings_33 : decode cX12_doings 33 = .ok (.imul, 1) := by decide +kernel
theorem dX12_doings_34 : decode cX12_doings 34 = .ok (.aload_n 0, 1) := by decide +kernel
theorem dX12_doings_35 : decode cX12_doings 35 = .ok (.getfield 78, 3) := by decide +kernel
theorem dX12_doings_38 : decode cX12_doings 38 = .ok (.aload_n 0, 1) := by decide +kernel
theorem dX12_doings_39 : decode cX12_doings 39 = .ok (.getfield 115, 3) := by decide +kernel
theorem dX12_doings_42 : decode cX12_doings 42 = .ok (.iaload, 1) := by decide +kernel
theorem dX12_doings_43 : decode cX12_doings 43 = .ok (.iadd, 1) := by decide +kernel
theorem dX12_doings_44 : decode cX12_doings 44 = .ok (.istore_n 1, 1) := by decide +kernel
theorem dX12_doings_45 : decode cX12_doings 45 = .ok (.aload_n 0, 1) := by decide +kernel
theorem dX12_doings_46 : decode cX12_doings 46 = .ok (.getfield 109, 3) := by decide +kernel
theorem dX12_doings_49 : decode cX12_doings 49 = .ok (.iload_n 1, 1) := by decide +kernel
theorem dX12_doings_50 : decode cX12_doings 50 = .ok (.aload_n 0, 1) := by decide +kernel
theorem dX12_doings_51 : decode cX12_doings 51 = .ok (.invokevirtual 355, 3) := by decide +kernel
theorem dX12_doings_54 : decode cX12_doings 54 = .ok (.lastore, 1) := by decide +kernel
theorem dX12_doings_55 : decode cX12_doings 55 = .ok (.aload_n 0, 1) := by decide +kernel
theorem dX12_doings_56 : decode cX12_doings 56 = .ok (.ldc2_w 267, 3) := by decide +kernel
theorem dX12_doings_59 : decode cX12_doings 59 = .ok (.invokevirtual 359, 3) := by decide +kernel
theorem dX12_doings_62 : decode cX12_doings 62 = .ok (.aload_n 0, 1) := by decide +kernel
theorem dX12_doings_63 : decode cX12_doings 63 = .ok (.getfield 81, 3) := by decide +kernel
theorem dX12_doings_66 : decode cX12_doings 66 = .ok (.iload_n 1, 1) := by decide +kernel
theorem dX12_doings_67 : decode cX12_doings 67 = .ok (.aload_n 0, 1) := by decide +kernel
theorem dX12_doings_68 : decode cX12_doings 68 = .ok (.iconst 1, 1) := by decide +kernel
theorem dX12_doings_69 : decode cX12_doings 69 = .ok (.iconst 0, 1) := by decide +kernel
theorem dX12_doings_70 : decode cX12_doings 70 = .ok (.invokevirtual 366, 3) := by decide +kernel
theorem dX12_doings_73 : decode cX12_doings 73 = .ok (.iastore, 1) := by decide +kernel
theorem dX12_doings_74 : decode cX12_doings 74 = .ok (.aload_n 0, 1) := by decide +kernel
theorem dX12_doings_75 : decode cX12_doings 75 = .ok (.ldc2_w 269, 3) := by decide +kernel
theorem dX12_doings_78 : decode cX12_doings 78 = .ok (.invokevirtual 359, 3) := by decide +kernel
theorem dX12_doings_81 : decode cX12_doings 81 = .ok (.aload_n 0, 1) := by decide +kernel
theorem dX12_doings_82 : decode cX12_doings 82 = .ok (.getfield 84, 3) := by decide +kernel
theorem dX12_doings_85 : decode cX12_doings 85 = .ok (.iload_n 1, 1) := by decide +kernel
theorem dX12_doings_86 : decode cX12_doings 86 = .ok (.aload_n 0, 1) := by decide +kernel
theorem dX12_doings_87 : decode cX12_doings 87 = .ok (.iconst 0, 1) := by decide +kernel
theorem dX12_doings_88 : decode cX12_doings 88 = .ok (.bipush 23, 2) := by decide +kernel
theorem dX12_doings_90 : decode cX12_doings 90 = .ok (.invokevirtual 363, 3) := by decide +kernel
theorem dX12_doings_93 : decode cX12_doings 93 = .ok (.iastore, 1) := by decide +kernel
theorem dX12_doings_94 : decode cX12_doings 94 = .ok (.aload_n 0, 1) := by decide +kernel
theorem dX12_doings_95 : decode cX12_doings 95 = .ok (.getfield 36, 3) := by decide +kernel
theorem dX12_doings_98 : decode cX12_doings 98 = .ok (.ifCond .ne 16, 3) := by decide +kernel
theorem dX12_doings_101 : decode cX12_doings 101 = .ok (.aload_n 0, 1) := by decide +kernel
theorem dX12_doings_102 : decode cX12_doings 102 = .ok (.getfield 78, 3) := by decide +kernel
theorem dX12_doings_105 : decode cX12_doings 105 = .ok (.aload_n 0, 1) := by decide +kernel
theorem dX12_doings_106 : decode cX12_doings 106 = .ok (.getfield 115, 3) := by decide +kernel
theorem dX12_doings_109 : decode cX12_doings 109 = .ok (.dup2, 1) := by decide +kernel
theorem dX12_doings_110 : decode cX12_doings 110 = .ok (.iaload, 1) := by decide +kernel
theorem dX12_doings_111 : decode cX12_doings 111 = .ok (.iconst 1, 1) := by decide +kernel
theorem dX12_doings_112 : decode cX12_doings 112 = .ok (.iadd, 1) := by decide +kernel
theorem dX12_doings_113 : decode cX12_doings 113 = .ok (.iastore, 1) := by decide +kernel
theorem dX12_doings_114 : decode cX12_doings 114 = .ok (.return_, 1) := by decide +kernel
theorem dX12_reading_0 : decode cX12_reading 0 = .ok (.iconst 2, 1) := by decide +kernel
theorem dX12_reading_1 : decode cX12_reading 1 = .ok (.aload_n 0, 1) := by decide +kernel
theorem dX12_reading_2 : decode cX12_reading 2 = .ok (.getfield 115, 3) := by decide +kernel
theorem dX12_reading_5 : decode cX12_reading 5 = .ok (.imul, 1) := by decide +kernel
theorem dX12_reading_6 : decode cX12_reading 6 = .ok (.iload_n 1, 1) := by decide +kernel
theorem dX12_reading_7 : decode cX12_reading 7 = .ok (.iadd, 1) := by decide +kernel
theorem dX12_reading_8 : decode cX12_reading 8 = .ok (.istore_n 2, 1) := by decide +kernel
theorem dX12_reading_9 : decode cX12_reading 9 = .ok (.aload_n 0, 1) := by decide +kernel
theorem dX12_reading_10 : decode cX12_reading 10 = .ok (.aload_n 0, 1) := by decide +kernel
theorem dX12_reading_11 : decode cX12_reading 11 = .ok (.getfield 90, 3) := by decide +kernel
theorem dX12_reading_14 : decode cX12_reading 14 = .ok (.iload_n 2, 1) := by decide +kernel
theorem dX12_reading_15 : decode cX12_reading 15 = .ok (.iaload, 1) := by decide +kernel
theorem dX12_reading_16 : decode cX12_reading 16 = .ok (.iconst (-1), 1) := by decide +kernel
theorem dX12_reading_17 : decode cX12_reading 17 = .ok (.if_icmp .eq 7, 3) := by decide +kernel
theorem dX12_reading_20 : decode cX12_reading 20 = .ok (.iconst 1, 1) := by decide +kernel
theorem dX12_reading_21 : decode cX12_reading 21 = .ok (.goto 4, 3) := by decide +kernel
theorem dX12_reading_24 : decode cX12_reading 24 = .ok (.iconst 0, 1) := by decide +kernel
theorem dX12_reading_25 : decode cX12_reading 25 = .ok (.invokevirtual 351, 3) := by decide +kernel
theorem dX12_reading_28 : decode cX12_reading 28 = .ok (.ifCond .ne 4, 3) := by decide +kernel
theorem dX12_reading_31 : decode cX12_reading 31 = .ok (.return_, 1) := by decide +kernel
theorem dX12_reading_32 : decode cX12_reading 32 = .ok (.aload_n 0, 1) := by decide +kernel
theorem dX12_reading_33 : decode cX12_reading 33 = .ok (.iload_n 1, 1) := by decide +kernel
theorem dX12_reading_34 : decode cX12_reading 34 = .ok (.iconst 1, 1) := by decide +kernel
theorem dX12_reading_35 : decode cX12_reading 35 = .ok (.if_icmp .ne 7, 3) := by decide +kernel
theorem dX12_reading_38 : decode cX12_reading 38 = .ok (.iconst 1, 1) := by decide +kernel
theorem dX12_reading_39 : decode cX12_reading 39 = .ok (.goto 4, 3) := by decide +kernel
theorem dX12_reading_42 : decode cX12_reading 42 = .ok (.iconst 0, 1) := by decide +kernel
theorem dX12_reading_43 : decode cX12_reading 43 = .ok (.putfield 118, 3) := by decide +kernel
theorem dX12_reading_46 : decode cX12_reading 46 = .ok (.aload_n 0, 1) := by decide +kernel
theorem dX12_reading_47 : decode cX12_reading 47 = .ok (.getfield 90, 3) := by decide +kernel
theorem dX12_reading_50 : decode cX12_reading 50 = .ok (.iload_n 2, 1) := by decide +kernel
theorem dX12_reading_51 : decode cX12_reading 51 = .ok (.aload_n 0, 1) := by decide +kernel
theorem dX12_reading_52 : decode cX12_reading 52 = .ok (.getfield 112, 3) := by decide +kernel
theorem dX12_reading_55 : decode cX12_reading 55 = .ok (.iastore, 1) := by decide +kernel
theorem dX12_reading_56 : decode cX12_reading 56 = .ok (.aload_n 0, 1) := by decide +kernel
theorem dX12_reading_57 : decode cX12_reading 57 = .ok (.iload_n 1, 1) := by decide +kernel
theorem dX12_reading_58 : decode cX12_reading 58 = .ok (.iconst 1, 1) := by decide +kernel
theorem dX12_reading_59 : decode cX12_reading 59 = .ok (.if_icmp .ne 7, 3) := by decide +kernel
theorem dX12_reading_62 : decode cX12_reading 62 = .ok (.iconst 1, 1) := by decide +kernel
theorem dX12_reading_63 : decode cX12_reading 63 = .ok (.goto 4, 3) := by decide +kernel
theorem dX12_reading_66 : decode cX12_reading 66 = .ok (.iconst 0, 1) := by decide +kernel
theorem dX12_reading_67 : decode cX12_reading 67 = .ok (.invokevirtual 373, 3) := by decide +kernel
theorem dX12_reading_70 : decode cX12_reading 70 = .ok (.aload_n 0, 1) := by decide +kernel
theorem dX12_reading_71 : decode cX12_reading 71 = .ok (.getfield 93, 3) := by decide +kernel
theorem dX12_reading_74 : decode cX12_reading 74 = .ok (.iload_n 2, 1) := by decide +kernel
theorem dX12_reading_75 : decode cX12_reading 75 = .ok (.aload_n 0, 1) := by decide +kernel
theorem dX12_reading_76 : decode cX12_reading 76 = .ok (.getfield 112, 3) := by decide +kernel
theorem dX12_reading_79 : decode cX12_reading 79 = .ok (.iastore, 1) := by decide +kernel
theorem dX12_reading_80 : decode cX12_reading 80 = .ok (.return_, 1) := by decide +kernel
theorem dX12_passing_0 : decode cX12_passing 0 = .ok (.aload_n 0, 1) := by decide +kernel
theorem dX12_passing_1 : decode cX12_passing 1 = .ok (.iconst 0, 1) := by decide +kernel
theorem dX12_passing_2 : decode cX12_passing 2 = .ok (.invokevirtual 351, 3) := by decide +kernel
theorem dX12_passing_5 : decode cX12_passing 5 = .ok (.ifCond .ne 4, 3) := by decide +kernel
theorem dX12_passing_8 : decode cX12_passing 8 = .ok (.return_, 1) := by decide +kernel
theorem dX12_passing_9 : decode cX12_passing 9 = .ok (.aload_n 0, 1) := by decide +kernel
theorem dX12_passing_10 : decode cX12_passing 10 = .ok (.iconst 0, 1) := by decide +kernel
theorem dX12_passing_11 : decode cX12_passing 11 = .ok (.bipush 100, 2) := by decide +kernel
theorem dX12_passing_13 : decode cX12_passing 13 = .ok (.invokevirtual 363, 3) := by decide +kernel
theorem dX12_passing_16 : decode cX12_passing 16 = .ok (.istore_n 1, 1) := by decide +kernel
theorem dX12_passing_17 : decode cX12_passing 17 = .ok (.aload_n 0, 1) := by decide +kernel
theorem dX12_passing_18 : decode cX12_passing 18 = .ok (.getfield 36, 3) := by decide +kernel
theorem dX12_passing_21 : decode cX12_passing 21 = .ok (.ifCond .ne 13, 3) := by decide +kernel
theorem dX12_passing_24 : decode cX12_passing 24 = .ok (.aload_n 0, 1) := by decide +kernel
theorem dX12_passing_25 : decode cX12_passing 25 = .ok (.getfield 87, 3) := by decide +kernel
theorem dX12_passing_28 : decode cX12_passing 28 = .ok (.aload_n 0, 1) := by decide +kernel
theorem dX12_passing_29 : decode cX12_passing 29 = .ok (.getfield 115, 3) := by decide +kernel
theorem dX12_passing_32 : decode cX12_passing 32 = .ok (.iload_n 1, 1) := by decide +kernel
theorem dX12_passing_33 : decode cX12_passing 33 = .ok (.iastore, 1) := by decide +kernel
theorem dX12_passing_34 : decode cX12_passing 34 = .ok (.return_, 1) := by decide +kernel
theorem dX12_statement_0 : decode cX12_statement 0 = .ok (.aload_n 0, 1) := by decide +kernel
theorem dX12_statement_1 : decode cX12_statement 1 = .ok (.invokevirtual 238, 3) := by decide +kernel
theorem dX12_statement_4 : decode cX12_statement 4 = .ok (.aload_n 0, 1) := by decide +kernel
theorem dX12_statement_5 : decode cX12_statement 5 = .ok (.getfield 36, 3) := by decide +kernel
theorem dX12_statement_8 : decode cX12_statement 8 = .ok (.ifCond .le 4, 3) := by decide +kernel
theorem dX12_statement_11 : decode cX12_statement 11 = .ok (.return_, 1) := by decide +kernel
theorem dX12_statement_12 : decode cX12_statement 12 = .ok (.aload_n 0, 1) := by decide +kernel
theorem dX12_statement_13 : decode cX12_statement 13 = .ok (.ldc2_w 247, 3) := by decide +kernel
theorem dX12_statement_16 : decode cX12_statement 16 = .ok (.invokevirtual 321, 3) := by decide +kernel
theorem dX12_statement_19 : decode cX12_statement 19 = .ok (.ifCond .eq 10, 3) := by decide +kernel
theorem dX12_statement_22 : decode cX12_statement 22 = .ok (.aload_n 0, 1) := by decide +kernel
theorem dX12_statement_23 : decode cX12_statement 23 = .ok (.invokevirtual 377, 3) := by decide +kernel
theorem dX12_statement_26 : decode cX12_statement 26 = .ok (.goto 133, 3) := by decide +kernel
theorem dX12_statement_29 : decode cX12_statement 29 = .ok (.aload_n 0, 1) := by decide +kernel
theorem dX12_statement_30 : decode cX12_statement 30 = .ok (.ldc2_w 253, 3) := by decide +kernel
theorem dX12_statement_33 : decode cX12_statement 33 = .ok (.invokevirtual 321, 3) := by decide +kernel
theorem dX12_statement_36 : decode cX12_statement 36 = .ok (.ifCond .eq 10, 3) := by decide +kernel
theorem dX12_statement_39 : decode cX12_statement 39 = .ok (.aload_n 0, 1) := by decide +kernel
theorem dX12_statement_40 : decode cX12_statement 40 = .ok (.invokevirtual 380, 3) := by decide +kernel
theorem dX12_statement_43 : decode cX12_statement 43 = .ok (.goto 116, 3) := by decide +kernel
theorem dX12_statement_46 : decode cX12_statement 46 = .ok (.aload_n 0, 1) := by decide +kernel
theorem dX12_statement_47 : decode cX12_statement 47 = .ok (.ldc2_w 255, 3) := by decide +kernel
theorem dX12_statement_50 : decode cX12_statement 50 = .ok (.invokevirtual 321, 3) := by decide +kernel
theorem dX12_statement_53 : decode cX12_statement 53 = .ok (.ifCond .eq 10, 3) := by decide +kernel
theorem dX12_statement_56 : decode cX12_statement 56 = .ok (.aload_n 0, 1) := by decide +kernel
theorem dX12_statement_57 : decode cX12_statement 57 = .ok (.invokevirtual 383, 3) := by decide +kernel
theorem dX12_statement_60 : decode cX12_statement 60 = .ok (.goto 99, 3) := by decide +kernel
theorem dX12_statement_63 : decode cX12_statement 63 = .ok (.aload_n 0, 1) := by decide +kernel
theorem dX12_statement_64 : decode cX12_statement 64 = .ok (.ldc2_w 261, 3) := by decide +kernel
theorem dX12_statement_67 : decode cX12_statement 67 = .ok (.invokevirtual 321, 3) := by decide +kernel
theorem dX12_statement_70 : decode cX12_statement 70 = .ok (.ifCond .eq 10, 3) := by decide +kernel
theorem dX12_statement_73 : decode cX12_statement 73 = .ok (.aload_n 0, 1) := by decide +kernel
theorem dX12_statement_74 : decode cX12_statement 74 = .ok (.invokevirtual 386, 3) := by decide +kernel
theorem dX12_statement_77 : decode cX12_statement 77 = .ok (.goto 82, 3) := by decide +kernel
theorem dX12_statement_80 : decode cX12_statement 80 = .ok (.aload_n 0, 1) := by decide +kernel
theorem dX12_statement_81 : decode cX12_statement 81 = .ok (.ldc2_w 265, 3) := by decide +kernel
theorem dX12_statement_84 : decode cX12_statement 84 = .ok (.invokevirtual 321, 3) := by decide +kernel
theorem dX12_statement_87 : decode cX12_statement 87 = .ok (.ifCond .eq 10, 3) := by decide +kernel
theorem dX12_statement_90 : decode cX12_statement 90 = .ok (.aload_n 0, 1) := by decide +kernel
theorem dX12_statement_91 : decode cX12_statement 91 = .ok (.invokevirtual 389, 3) := by decide +kernel
theorem dX12_statement_94 : decode cX12_statement 94 = .ok (.goto 65, 3) := by decide +kernel
theorem dX12_statement_97 : decode cX12_statement 97 = .ok (.aload_n 0, 1) := by decide +kernel
theorem dX12_statement_98 : decode cX12_statement 98 = .ok (.ldc2_w 271, 3) := by decide +kernel
theorem dX12_statement_101 : decode cX12_statement 101 = .ok (.invokevirtual 321, 3) := by decide +kernel
theorem dX12_statement_104 : decode cX12_statement 104 = .ok (.ifCond .eq 11, 3) := by decide +kernel
theorem dX12_statement_107 : decode cX12_statement 107 = .ok (.aload_n 0, 1) := by decide +kernel
theorem dX12_statement_108 : decode cX12_statement 108 = .ok (.iconst 0, 1) := by decide +kernel
theorem dX12_statement_109 : decode cX12_statement 109 = .ok (.invokevirtual 391, 3) := by decide +kernel
theorem dX12_statement_112 : decode cX12_statement 112 = .ok (.goto 47, 3) := by decide +kernel
theorem dX12_statement_115 : decode cX12_statement 115 = .ok (.aload_n 0, 1) := by decide +kernel
theorem dX12_statement_116 : decode cX12_statement 116 = .ok (.ldc2_w 273, 3) := by decide +kernel
theorem dX12_statement_119 : decode cX12_statement 119 = .ok (.invokevirtual 321, 3) := by decide +kernel
theorem dX12_statement_122 : decode cX12_statement 122 = .ok (.ifCond .eq 11, 3) := by decide +kernel
theorem dX12_statement_125 : decode cX12_statement 125 = .ok (.aload_n 0, 1) := by decide +kernel
theorem dX12_statement_126 : decode cX12_statement 126 = .ok (.iconst 1, 1) := by decide +kernel
theorem dX12_statement_127 : decode cX12_statement 127 = .ok (.invokevirtual 391, 3) := by decide +kernel
theorem dX12_statement_130 : decode cX12_statement 130 = .ok (.goto 29, 3) := by decide +kernel
theorem dX12_statement_133 : decode cX12_statement 133 = .ok (.aload_n 0, 1) := by decide +kernel
theorem dX12_statement_134 : decode cX12_statement 134 = .ok (.ldc2_w 275, 3) := by decide +kernel
theorem dX12_statement_137 : decode cX12_statement 137 = .ok (.invokevirtual 321, 3) := by decide +kernel
theorem dX12_statement_140 : decode cX12_statement 140 = .ok (.ifCond .eq 10, 3) := by decide +kernel
theorem dX12_statement_143 : decode cX12_statement 143 = .ok (.aload_n 0, 1) := by decide +kernel
theorem dX12_statement_144 : decode cX12_statement 144 = .ok (.invokevirtual 394, 3) := by decide +kernel
theorem dX12_statement_147 : decode cX12_statement 147 = .ok (.goto 12, 3) := by decide +kernel
theorem dX12_statement_150 : decode cX12_statement 150 = .ok (.aload_n 0, 1) := by decide +kernel
theorem dX12_statement_151 : decode cX12_statement 151 = .ok (.iconst 1, 1) := by decide +kernel
theorem dX12_statement_152 : decode cX12_statement 152 = .ok (.aload_n 0, 1) := by decide +kernel
theorem dX12_statement_153 : decode cX12_statement 153 = .ok (.getfield 23, 3) := by decide +kernel
theorem dX12_statement_156 : decode cX12_statement 156 = .ok (.invokevirtual 227, 3) := by decide +kernel
theorem dX12_statement_159 : decode cX12_statement 159 = .ok (.return_, 1) := by decide +kernel
theorem dX12_finishes_0 : decode cX12_finishes 0 = .ok (.aload_n 0, 1) := by decide +kernel
theorem dX12_finishes_1 : decode cX12_finishes 1 = .ok (.invokevirtual 238, 3) := by decide +kernel
theorem dX12_finishes_4 : decode cX12_finishes 4 = .ok (.aload_n 0, 1) := by decide +kernel
theorem dX12_finishes_5 : decode cX12_finishes 5 = .ok (.getfield 36, 3) := by decide +kernel
theorem dX12_finishes_8 : decode cX12_finishes 8 = .ok (.ifCond .le 4, 3) := by decide +kernel
theorem dX12_finishes_11 : decode cX12_finishes 11 = .ok (.return_, 1) := by decide +kernel
theorem dX12_finishes_12 : decode cX12_finishes 12 = .ok (.aload_n 0, 1) := by decide +kernel
theorem dX12_finishes_13 : decode cX12_finishes 13 = .ok (.getfield 26, 3) := by decide +kernel
theorem dX12_finishes_16 : decode cX12_finishes 16 = .ok (.istore_n 2, 1) := by decide +kernel
theorem dX12_finishes_17 : decode cX12_finishes 17 = .ok (.iload_n 2, 1) := by decide +kernel
theorem dX12_finishes_18 : decode cX12_finishes 18 = .ok (.aload_n 0, 1) := by decide +kernel
theorem dX12_finishes_19 : decode cX12_finishes 19 = .ok (.getfield 17, 3) := by decide +kernel
theorem dX12_finishes_22 : decode cX12_finishes 22 = .ok (.if_icmp .ge 31, 3) := by decide +kernel
theorem dX12_finishes_25 : decode cX12_finishes 25 = .ok (.aload_n 0, 1) := by decide +kernel
theorem dX12_finishes_26 : decode cX12_finishes 26 = .ok (.getfield 7, 3) := by decide +kernel
theorem dX12_finishes_29 : decode cX12_finishes 29 = .ok (.iload_n 2, 1) := by decide +kernel
theorem dX12_finishes_30 : decode cX12_finishes 30 = .ok (.iaload, 1) := by decide +kernel
theorem dX12_finishes_31 : decode cX12_finishes 31 = .ok (.bipush 32, 2) := by decide +kernel
theorem dX12_finishes_33 : decode cX12_finishes 33 = .ok (.if_icmp .eq 14, 3) := by decide +kernel
theorem dX12_finishes_36 : decode cX12_finishes 36 = .ok (.aload_n 0, 1) := by decide +kernel
theorem dX12_finishes_37 : decode cX12_finishes 37 = .ok (.getfield 7, 3) := by decide +kernel
theorem dX12_finishes_40 : decode cX12_finishes 40 = .ok (.iload_n 2, 1) := by decide +kernel
theorem dX12_finishes_41 : decode cX12_finishes 41 = .ok (.iaload, 1) := by decide +kernel
theorem dX12_finishes_42 : decode cX12_finishes 42 = .ok (.bipush 10, 2) := by decide +kernel
theorem dX12_finishes_44 : decode cX12_finishes 44 = .ok (.if_icmp .ne 9, 3) := by decide +kernel
theorem dX12_finishes_47 : decode cX12_finishes 47 = .ok (.iinc 2 1, 3) := by decide +kernel
theorem dX12_finishes_50 : decode cX12_finishes 50 = .ok (.goto (-33), 3) := by decide +kernel
theorem dX12_finishes_53 : decode cX12_finishes 53 = .ok (.aload_n 0, 1) := by decide +kernel
theorem dX12_finishes_54 : decode cX12_finishes 54 = .ok (.bipush 59, 2) := by decide +kernel
theorem dX12_finishes_56 : decode cX12_finishes 56 = .ok (.invokevirtual 241, 3) := by decide +kernel
theorem dX12_finishes_59 : decode cX12_finishes 59 = .ok (.ifCond .eq 24, 3) := by decide +kernel
theorem dX12_finishes_62 : decode cX12_finishes 62 = .ok (.iload_n 1, 1) := by decide +kernel
theorem dX12_finishes_63 : decode cX12_finishes 63 = .ok (.bipush 80, 2) := by decide +kernel
theorem dX12_finishes_65 : decode cX12_finishes 65 = .ok (.if_icmp .ne 18, 3) := by decide +kernel
theorem dX12_finishes_68 : decode cX12_finishes 68 = .ok (.iload_n 2, 1) := by decide +kernel
theorem dX12_finishes_69 : decode cX12_finishes 69 = .ok (.aload_n 0, 1) := by decide +kernel
theorem dX12_finishes_70 : decode cX12_finishes 70 = .ok (.getfield 17, 3) := by decide +kernel
theorem dX12_finishes_73 : decode cX12_finishes 73 = .ok (.if_icmp .ge 10, 3) := by decide +kernel
theorem dX12_finishes_76 : decode cX12_finishes 76 = .ok (.aload_n 0, 1) := by decide +kernel
theorem dX12_finishes_77 : decode cX12_finishes 77 = .ok (.bipush 6, 2) := by decide +kernel
theorem dX12_finishes_79 : decode cX12_finishes 79 = .ok (.iload_n 2, 1) := by decide +kernel
theorem dX12_finishes_80 : decode cX12_finishes 80 = .ok (.invokevirtual 227, 3) := by decide +kernel
theorem dX12_finishes_83 : decode cX12_finishes 83 = .ok (.aload_n 0, 1) := by decide +kernel
theorem dX12_finishes_84 : decode cX12_finishes 84 = .ok (.bipush 59, 2) := by decide +kernel
theorem dX12_finishes_86 : decode cX12_finishes 86 = .ok (.invokevirtual 397, 3) := by decide +kernel
theorem dX12_finishes_89 : decode cX12_finishes 89 = .ok (.return_, 1) := by decide +kernel
theorem dX12_measures_0 : decode cX12_measures 0 = .ok (.iconst 0, 1) := by decide +kernel
theorem dX12_measures_1 : decode cX12_measures 1 = .ok (.istore_n 1, 1) := by decide +kernel
theorem dX12_measures_2 : decode cX12_measures 2 = .ok (.iload_n 1, 1) := by decide +kernel
theorem dX12_measures_3 : decode cX12_measures 3 = .ok (.iconst 5, 1) := by decide +kernel
theorem dX12_measures_4 : decode cX12_measures 4 = .ok (.if_icmp .ge 85, 3) := by decide +kernel
theorem dX12_measures_7 : decode cX12_measures 7 = .ok (.iconst 0, 1) := by decide +kernel
theorem dX12_measures_8 : decode cX12_measures 8 = .ok (.istore_n 2, 1) := by decide +kernel
theorem dX12_measures_9 : decode cX12_measures 9 = .ok (.iload_n 2, 1) := by decide +kernel
theorem dX12_measures_10 : decode cX12_measures 10 = .ok (.iconst 5, 1) := by decide +kernel
theorem dX12_measures_11 : decode cX12_measures 11 = .ok (.if_icmp .ge 72, 3) := by decide +kernel
theorem dX12_measures_14 : decode cX12_measures 14 = .ok (.aload_n 0, 1) := by decide +kernel
theorem dX12_measures_15 : decode cX12_measures 15 = .ok (.getfield 75, 3) := by decide +kernel
theorem dX12_measures_18 : decode cX12_measures 18 = .ok (.aload_n 0, 1) := by decide +kernel
theorem dX12_measures_19 : decode cX12_measures 19 = .ok (.aload_n 0, 1) := by decide +kernel
theorem dX12_measures_20 : decode cX12_measures 20 = .ok (.getfield 115, 3) := by decide +kernel
theorem dX12_measures_23 : decode cX12_measures 23 = .ok (.iload_n 1, 1) := by decide +kernel
theorem dX12_measures_24 : decode cX12_measures 24 = .ok (.iload_n 2, 1) := by decide +kernel
theorem dX12_measures_25 : decode cX12_measures 25 = .ok (.invokevirtual 369, 3) := by decide +kernel
theorem dX12_measures_28 : decode cX12_measures 28 = .ok (.iload_n 1, 1) := by decide +kernel
theorem dX12_measures_29 : decode cX12_measures 29 = .ok (.iload_n 2, 1) := by decide +kernel
theorem dX12_measures_30 : decode cX12_measures 30 = .ok (.if_icmp .ne 7, 3) := by decide +kernel
theorem dX12_measures_33 : decode cX12_measures 33 = .ok (.iconst 0, 1) := by decide +kernel
theorem dX12_measures_34 : decode cX12_measures 34 = .ok (.goto 42, 3) := by decide +kernel
theorem dX12_measures_37 : decode cX12_measures 37 = .ok (.aload_n 0, 1) := by decide +kernel
theorem dX12_measures_38 : decode cX12_measures 38 = .ok (.getfield 72, 3) := by decide +kernel
theorem dX12_measures_41 : decode cX12_measures 41 = .ok (.aload_n 0, 1) := by decide +kernel
theorem dX12_measures_42 : decode cX12_measures 42 = .ok (.aload_n 0, 1) := by decide +kernel
theorem dX12_measures_43 : decode cX12_measures 43 = .ok (.getfield 115, 3) := by decide +kernel
theorem dX12_measures_46 : decode cX12_measures 46 = .ok (.iload_n 1, 1) := by decide +kernel
theorem dX12_measures_47 : decode cX12_measures 47 = .ok (.iload_n 2, 1) := by decide +kernel
theorem dX12_measures_48 : decode cX12_measures 48 = .ok (.invokevirtual 369, 3) := by decide +kernel
theorem dX12_measures_51 : decode cX12_measures 51 = .ok (.iaload, 1) := by decide +kernel
theorem dX12_measures_52 : decode cX12_measures 52 = .ok (.ifCond .le 21, 3) := by decide +kernel
theorem dX12_measures_55 : decode cX12_measures 55 = .ok (.aload_n 0, 1) := by decide +kernel
theorem dX12_measures_56 : decode cX12_measures 56 = .ok (.getfield 72, 3) := by decide +kernel
theorem dX12_measures_59 : decode cX12_measures 59 = .ok (.aload_n 0, 1) := by decide +kernel
theorem dX12_measures_60 : decode cX12_measures 60 = .ok (.aload_n 0, 1) := by decide +kernel
theorem dX12_measures_61 : decode cX12_measures 61 = .ok (.getfield 115, 3) := by decide +kernel
theorem dX12_measures_64 : decode cX12_measures 64 = .ok (.iload_n 1, 1) := by decide +kernel
theorem dX12_measures_65 : decode cX12_measures 65 = .ok (.iload_n 2, 1) := by decide +kernel
theorem dX12_measures_66 : decode cX12_measures 66 = .ok (.invokevirtual 369, 3) := by decide +kernel
theorem dX12_measures_69 : decode cX12_measures 69 = .ok (.iaload, 1) := by decide +kernel
theorem dX12_measures_70 : decode cX12_measures 70 = .ok (.goto 6, 3) := by decide +kernel
theorem dX12_measures_73 : decode cX12_measures 73 = .ok (.ldc_w 399, 3) := by decide +kernel
theorem dX12_measures_76 : decode cX12_measures 76 = .ok (.iastore, 1) := by decide +kernel
theorem dX12_measures_77 : decode cX12_measures 77 = .ok (.iinc 2 1, 3) := by decide +kernel
theorem dX12_measures_80 : decode cX12_measures 80 = .ok (.goto (-71), 3) := by decide +kernel
theorem dX12_measures_83 : decode cX12_measures 83 = .ok (.iinc 1 1, 3) := by decide +kernel
theorem dX12_measures_86 : decode cX12_measures 86 = .ok (.goto (-84), 3) := by decide +kernel
theorem dX12_measures_89 : decode cX12_measures 89 = .ok (.iconst 0, 1) := by decide +kernel
theorem dX12_measures_90 : decode cX12_measures 90 = .ok (.istore_n 1, 1) := by decide +kernel
theorem dX12_measures_91 : decode cX12_measures 91 = .ok (.iload_n 1, 1) := by decide +kernel
theorem dX12_measures_92 : decode cX12_measures 92 = .ok (.iconst 5, 1) := by decide +kernel
theorem dX12_measures_93 : decode cX12_measures 93 = .ok (.if_icmp .ge 105, 3) := by decide +kernel
theorem dX12_measures_96 : decode cX12_measures 96 = .ok (.iconst 0, 1) := by decide +kernel
theorem dX12_measures_97 : decode cX12_measures 97 = .ok (.istore_n 2, 1) := by decide +kernel
theorem dX12_measures_98 : decode cX12_measures 98 = .ok (.iload_n 2, 1) := by decide +kernel
theorem dX12_measures_99 : decode cX12_measures 99 = .ok (.iconst 5, 1) := by decide +kernel
theorem dX12_measures_100 : decode cX12_measures 100 = .ok (.if_icmp .ge 92, 3) := by decide +kernel
theorem dX12_measures_103 : decode cX12_measures 103 = .ok (.iconst 0, 1) := by decide +kernel
theorem dX12_measures_104 : decode cX12_measures 104 = .ok (.istore_n 3, 1) := by decide +kernel
theorem dX12_measures_105 : decode cX12_measures 105 = .ok (.iload_n 3, 1) := by decide +kernel
theorem dX12_measures_106 : decode cX12_measures 106 = .ok (.iconst 5, 1) := by decide +kernel
theorem dX12_measures_107 : decode cX12_measures 107 = .ok (.if_icmp .ge 79, 3) := by decide +kernel
theorem dX12_measures_110 : decode cX12_measures 110 = .ok (.aload_n 0, 1) := by decide +kernel
theorem dX12_measures_111 : decode cX12_measures 111 = .ok (.getfield 75, 3) := by decide +kernel
theorem dX12_measures_114 : decode cX12_measures 114 = .ok (.aload_n 0, 1) := by decide +kernel
theorem dX12_measures_115 : decode cX12_measures 115 = .ok (.aload_n 0, 1) := by decide +kernel
theorem dX12_measures_116 : decode cX12_measures 116 = .ok (.getfield 115, 3) := by decide +kernel
theorem dX12_measures_119 : decode cX12_measures 119 = .ok (.iload_n 2, 1) := by decide +kernel
theorem dX12_measures_120 : decode cX12_measures 120 = .ok (.iload_n 1, 1) := by decide +kernel
theorem dX12_measures_121 : decode cX12_measures 121 = .ok (.invokevirtual 369, 3) := by decide +kernel
theorem dX12_measures_124 : decode cX12_measures 124 = .ok (.iaload, 1) := by decide +kernel
theorem dX12_measures_125 : decode cX12_measures 125 = .ok (.aload_n 0, 1) := by decide +kernel
theorem dX12_measures_126 : decode cX12_measures 126 = .ok (.getfield 75, 3) := by decide +kernel
theorem dX12_measures_129 : decode cX12_measures 129 = .ok (.aload_n 0, 1) := by decide +kernel
theorem dX12_measures_130 : decode cX12_measures 130 = .ok (.aload_n 0, 1) := by decide +kernel
theorem dX12_measures_131 : decode cX12_measures 131 = .ok (.getfield 115, 3) := by decide +kernel
theorem dX12_measures_134 : decode cX12_measures 134 = .ok (.iload_n 1, 1) := by decide +kernel
theorem dX12_measures_135 : decode cX12_measures 135 = .ok (.iload_n 3, 1) := by decide +kernel
theorem dX12_measures_136 : decode cX12_measures 136 = .ok (.invokevirtual 369, 3) := by decide +kernel
theorem dX12_measures_139 : decode cX12_measures 139 = .ok (.iaload, 1) := by decide +kernel
theorem dX12_measures_140 : decode cX12_measures 140 = .ok (.iadd, 1) := by decide +kernel
theorem dX12_measures_141 : decode cX12_measures 141 = .ok (.istore 4, 2) := by decide +kernel
theorem dX12_measures_143 : decode cX12_measures 143 = .ok (.iload 4, 2) := by decide +kernel
theorem dX12_measures_145 : decode cX12_measures 145 = .ok (.aload_n 0, 1) := by decide +kernel
theorem dX12_measures_146 : decode cX12_measures 146 = .ok (.getfield 75, 3) := by decide +kernel
theorem dX12_measures_149 : decode cX12_measures 149 = .ok (.aload_n 0, 1) := by decide +kernel
theorem dX12_measures_150 : decode cX12_measures 150 = .ok (.aload_n 0, 1) := by decide +kernel
theorem dX12_measures_151 : decode cX12_measures 151 = .ok (.getfield 115, 3) := by decide +kernel
theorem dX12_measures_154 : decode cX12_measures 154 = .ok (.iload_n 2, 1) := by decide +kernel
theorem dX12_measures_155 : decode cX12_measures 155 = .ok (.iload_n 3, 1) := by decide +kernel
theorem dX12_measures_156 : decode cX12_measures 156 = .ok (.invokevirtual 369, 3) := by decide +kernel
theorem dX12_measures_159 : decode cX12_measures 159 = .ok (.iaload, 1) := by decide +kernel
theorem dX12_measures_160 : decode cX12_measures 160 = .ok (.if_icmp .ge 20, 3) := by decide +kernel
theorem dX12_measures_163 : decode cX12_measures 163 = .ok (.aload_n 0, 1) := by decide +kernel
theorem dX12_measures_164 : decode cX12_measures 164 = .ok (.getfield 75, 3) := by decide +kernel
theorem dX12_measures_167 : decode cX12_measures 167 = .ok (.aload_n 0, 1) := by decide +kernel
theorem dX12_measures_168 : decode cX12_measures 168 = .ok (.aload_n 0, 1) := by decide +kernel
theorem dX12_measures_169 : decode cX12_measures 169 = .ok (.getfield 115, 3) := by decide +kernel
theorem dX12_measures_172 : decode cX12_measures 172 = .ok (.iload_n 2, 1) := by decide +kernel
theorem dX12_measures_173 : decode cX12_measures 173 = .ok (.iload_n 3, 1) := by decide +kernel
theorem dX12_measures_174 : decode cX12_measures 174 = .ok (.invokevirtual 369, 3) := by decide +kernel
theorem dX12_measures_177 : decode cX12_measures 177 = .ok (.iload 4, 2) := by decide +kernel
theorem dX12_measures_179 : decode cX12_measures 179 = .ok (.iastore, 1) := by decide +kernel
theorem dX12_measures_180 : decode cX12_measures 180 = .ok (.iinc 3 1, 3) := by decide +kernel
theorem dX12_measures_183 : decode cX12_measures 183 = .ok (.goto (-78), 3) := by decide +kernel
theorem dX12_measures_186 : decode cX12_measures 186 = .ok (.iinc 2 1, 3) := by decide +kernel
theorem dX12_measures_189 : decode cX12_measures 189 = .ok (.goto (-91), 3) := by decide +kernel
theorem dX12_measures_192 : decode cX12_measures 192 = .ok (.iinc 1 1, 3) := by decide +kernel
theorem dX12_measures_195 : decode cX12_measures 195 = .ok (.goto (-104), 3) := by decide +kernel
theorem dX12_measures_198 : decode cX12_measures 198 = .ok (.return_, 1) := by decide +kernel
theorem dX12_town_0 : decode cX12_town 0 = .ok (.aload_n 0, 1) := by decide +kernel
theorem dX12_town_1 : decode cX12_town 1 = .ok (.aload_n 0, 1) := by decide +kernel
theorem dX12_town_2 : decode cX12_town 2 = .ok (.getfield 13, 3) := by decide +kernel
theorem dX12_town_5 : decode cX12_town 5 = .ok (.putfield 17, 3) := by decide +kernel
theorem dX12_town_8 : decode cX12_town 8 = .ok (.aload_n 0, 1) := by decide +kernel
theorem dX12_town_9 : decode cX12_town 9 = .ok (.iconst 0, 1) := by decide +kernel
theorem dX12_town_10 : decode cX12_town 10 = .ok (.putfield 13, 3) := by decide +kernel
theorem dX12_town_13 : decode cX12_town 13 = .ok (.aload_n 0, 1) := by decide +kernel
theorem dX12_town_14 : decode cX12_town 14 = .ok (.iconst 0, 1) := by decide +kernel
theorem dX12_town_15 : decode cX12_town 15 = .ok (.putfield 26, 3) := by decide +kernel
theorem dX12_town_18 : decode cX12_town 18 = .ok (.aload_n 0, 1) := by decide +kernel
theorem dX12_town_19 : decode cX12_town 19 = .ok (.iconst 0, 1) := by decide +kernel
theorem dX12_town_20 : decode cX12_town 20 = .ok (.putfield 36, 3) := by decide +kernel
theorem dX12_town_23 : decode cX12_town 23 = .ok (.aload_n 0, 1) := by decide +kernel
theorem dX12_town_24 : decode cX12_town 24 = .ok (.iconst (-1), 1) := by decide +kernel
theorem dX12_town_25 : decode cX12_town 25 = .ok (.putfield 39, 3) := by decide +kernel
theorem dX12_town_28 : decode cX12_town 28 = .ok (.aload_n 0, 1) := by decide +kernel
theorem dX12_town_29 : decode cX12_town 29 = .ok (.iconst 1, 1) := by decide +kernel
theorem dX12_town_30 : decode cX12_town 30 = .ok (.aload_n 0, 1) := by decide +kernel
theorem dX12_town_31 : decode cX12_town 31 = .ok (.getfield 51, 3) := by decide +kernel
theorem dX12_town_34 : decode cX12_town 34 = .ok (.isub, 1) := by decide +kernel
theorem dX12_town_35 : decode cX12_town 35 = .ok (.putfield 115, 3) := by decide +kernel
theorem dX12_town_38 : decode cX12_town 38 = .ok (.aload_n 0, 1) := by decide +kernel
theorem dX12_town_39 : decode cX12_town 39 = .ok (.getfield 54, 3) := by decide +kernel
theorem dX12_town_42 : decode cX12_town 42 = .ok (.aload_n 0, 1) := by decide +kernel
theorem dX12_town_43 : decode cX12_town 43 = .ok (.getfield 115, 3) := by decide +kernel
theorem dX12_town_46 : decode cX12_town 46 = .ok (.iconst 0, 1) := by decide +kernel
theorem dX12_town_47 : decode cX12_town 47 = .ok (.iastore, 1) := by decide +kernel
theorem dX12_town_48 : decode cX12_town 48 = .ok (.aload_n 0, 1) := by decide +kernel
theorem dX12_town_49 : decode cX12_town 49 = .ok (.getfield 63, 3) := by decide +kernel
theorem dX12_town_52 : decode cX12_town 52 = .ok (.aload_n 0, 1) := by decide +kernel
theorem dX12_town_53 : decode cX12_town 53 = .ok (.getfield 115, 3) := by decide +kernel
theorem dX12_town_56 : decode cX12_town 56 = .ok (.iconst 0, 1) := by decide +kernel
theorem dX12_town_57 : decode cX12_town 57 = .ok (.iastore, 1) := by decide +kernel
theorem dX12_town_58 : decode cX12_town 58 = .ok (.aload_n 0, 1) := by decide +kernel
theorem dX12_town_59 : decode cX12_town 59 = .ok (.getfield 69, 3) := by decide +kernel
theorem dX12_town_62 : decode cX12_town 62 = .ok (.aload_n 0, 1) := by decide +kernel
theorem dX12_town_63 : decode cX12_town 63 = .ok (.getfield 115, 3) := by decide +kernel
theorem dX12_town_66 : decode cX12_town 66 = .ok (.iconst 0, 1) := by decide +kernel
theorem dX12_town_67 : decode cX12_town 67 = .ok (.iastore, 1) := by decide +kernel
theorem dX12_town_68 : decode cX12_town 68 = .ok (.aload_n 0, 1) := by decide +kernel
theorem dX12_town_69 : decode cX12_town 69 = .ok (.getfield 78, 3) := by decide +kernel
theorem dX12_town_72 : decode cX12_town 72 = .ok (.aload_n 0, 1) := by decide +kernel
theorem dX12_town_73 : decode cX12_town 73 = .ok (.getfield 115, 3) := by decide +kernel
theorem dX12_town_76 : decode cX12_town 76 = .ok (.iconst 0, 1) := by decide +kernel
theorem dX12_town_77 : decode cX12_town 77 = .ok (.iastore, 1) := by decide +kernel
theorem dX12_town_78 : decode cX12_town 78 = .ok (.aload_n 0, 1) := by decide +kernel
theorem dX12_town_79 : decode cX12_town 79 = .ok (.getfield 87, 3) := by decide +kernel
theorem dX12_town_82 : decode cX12_town 82 = .ok (.aload_n 0, 1) := by decide +kernel
theorem dX12_town_83 : decode cX12_town 83 = .ok (.getfield 115, 3) := by decide +kernel
theorem dX12_town_86 : decode cX12_town 86 = .ok (.iconst 0, 1) := by decide +kernel
theorem dX12_town_87 : decode cX12_town 87 = .ok (.iastore, 1) := by decide +kernel
theorem dX12_town_88 : decode cX12_town 88 = .ok (.aload_n 0, 1) := by decide +kernel
theorem dX12_town_89 : decode cX12_town 89 = .ok (.getfield 90, 3) := by decide +kernel
theorem dX12_town_92 : decode cX12_town 92 = .ok (.iconst 2, 1) := by decide +kernel
theorem dX12_town_93 : decode cX12_town 93 = .ok (.aload_n 0, 1) := by decide +kernel
theorem dX12_town_94 : decode cX12_town 94 = .ok (.getfield 115, 3) := by decide +kernel
theorem dX12_town_97 : decode cX12_town 97 = .ok (.imul, 1) := by decide +kernel
theorem dX12_town_98 : decode cX12_town 98 = .ok (.iconst (-1), 1) := by decide +kernel
theorem dX12_town_99 : decode cX12_town 99 = .ok (.iastore, 1) := by decide +kernel
theorem dX12_town_100 : decode cX12_town 100 = .ok (.aload_n 0, 1) := by decide +kernel
theorem dX12_town_101 : decode cX12_town 101 = .ok (.getfield 90, 3) := by decide +kernel
theorem dX12_town_104 : decode cX12_town 104 = .ok (.iconst 2, 1) := by decide +kernel
theorem dX12_town_105 : decode cX12_town 105 = .ok (.aload_n 0, 1) := by decide +kernel
theorem dX12_town_106 : decode cX12_town 106 = .ok (.getfield 115, 3) := by decide +kernel
theorem dX12_town_109 : decode cX12_town 109 = .ok (.imul, 1) := by decide +kernel
theorem dX12_town_110 : decode cX12_town 110 = .ok (.iconst 1, 1) := by decide +kernel
theorem dX12_town_111 : decode cX12_town 111 = .ok (.iadd, 1) := by decide +kernel
theorem dX12_town_112 : decode cX12_town 112 = .ok (.iconst (-1), 1) := by decide +kernel
theorem dX12_town_113 : decode cX12_town 113 = .ok (.iastore, 1) := by decide +kernel
theorem dX12_town_114 : decode cX12_town 114 = .ok (.iconst 0, 1) := by decide +kernel
theorem dX12_town_115 : decode cX12_town 115 = .ok (.istore_n 1, 1) := by decide +kernel
theorem dX12_town_116 : decode cX12_town 116 = .ok (.iload_n 1, 1) := by decide +kernel
theorem dX12_town_117 : decode cX12_town 117 = .ok (.iconst 5, 1) := by decide +kernel
theorem dX12_town_118 : decode cX12_town 118 = .ok (.if_icmp .ge 38, 3) := by decide +kernel
theorem dX12_town_121 : decode cX12_town 121 = .ok (.iconst 0, 1) := by decide +kernel
theorem dX12_town_122 : decode cX12_town 122 = .ok (.istore_n 2, 1) := by decide +kernel
theorem dX12_town_123 : decode cX12_town 123 = .ok (.iload_n 2, 1) := by decide +kernel
theorem dX12_town_124 : decode cX12_town 124 = .ok (.iconst 5, 1) := by decide +kernel
theorem dX12_town_125 : decode cX12_town 125 = .ok (.if_icmp .ge 25, 3) := by decide +kernel
theorem dX12_town_128 : decode cX12_town 128 = .ok (.aload_n 0, 1) := by decide +kernel
theorem dX12_town_129 : decode cX12_town 129 = .ok (.getfield 72, 3) := by decide +kernel
theorem dX12_town_132 : decode cX12_town 132 = .ok (.aload_n 0, 1) := by decide +kernel
theorem dX12_town_133 : decode cX12_town 133 = .ok (.aload_n 0, 1) := by decide +kernel
theorem dX12_town_134 : decode cX12_town 134 = .ok (.getfield 115, 3) := by decide +kernel
theorem dX12_town_137 : decode cX12_town 137 = .ok (.iload_n 1, 1) := by decide +kernel
theorem dX12_town_138 : decode cX12_town 138 = .ok (.iload_n 2, 1) := by decide +kernel
theorem dX12_town_139 : decode cX12_town 139 = .ok (.invokevirtual 369, 3) := by decide +kernel
theorem dX12_town_142 : decode cX12_town 142 = .ok (.iconst 0, 1) := by decide +kernel
theorem dX12_town_143 : decode cX12_town 143 = .ok (.iastore, 1) := by decide +kernel
theorem dX12_town_144 : decode cX12_town 144 = .ok (.iinc 2 1, 3) := by decide +kernel
theorem dX12_town_147 : decode cX12_town 147 = .ok (.goto (-24), 3) := by decide +kernel
theorem dX12_town_150 : decode cX12_town 150 = .ok (.iinc 1 1, 3) := by decide +kernel
theorem dX12_town_153 : decode cX12_town 153 = .ok (.goto (-37), 3) := by decide +kernel
theorem dX12_town_156 : decode cX12_town 156 = .ok (.aload_n 0, 1) := by decide +kernel
theorem dX12_town_157 : decode cX12_town 157 = .ok (.iconst 0, 1) := by decide +kernel
theorem dX12_town_158 : decode cX12_town 158 = .ok (.putfield 112, 3) := by decide +kernel
theorem dX12_town_161 : decode cX12_town 161 = .ok (.iconst 0, 1) := by decide +kernel
theorem dX12_town_162 : decode cX12_town 162 = .ok (.istore_n 1, 1) := by decide +kernel
theorem dX12_town_163 : decode cX12_town 163 = .ok (.aload_n 0, 1) := by decide +kernel
theorem dX12_town_164 : decode cX12_town 164 = .ok (.invokevirtual 244, 3) := by decide +kernel
theorem dX12_town_167 : decode cX12_town 167 = .ok (.aload_n 0, 1) := by decide +kernel
theorem dX12_town_168 : decode cX12_town 168 = .ok (.getfield 36, 3) := by decide +kernel
theorem dX12_town_171 : decode cX12_town 171 = .ok (.ifCond .ne 25, 3) := by decide +kernel
theorem dX12_town_174 : decode cX12_town 174 = .ok (.aload_n 0, 1) := by decide +kernel
theorem dX12_town_175 : decode cX12_town 175 = .ok (.getfield 20, 3) := by decide +kernel
theorem dX12_town_178 : decode cX12_town 178 = .ok (.ifCond .eq 18, 3) := by decide +kernel
theorem dX12_town_181 : decode cX12_town 181 = .ok (.aload_n 0, 1) := by decide +kernel
theorem dX12_town_182 : decode cX12_town 182 = .ok (.invokevirtual 400, 3) := by decide +kernel
theorem dX12_town_185 : decode cX12_town 185 = .ok (.iinc 1 1, 3) := by decide +kernel
theorem dX12_town_188 : decode cX12_town 188 = .ok (.aload_n 0, 1) := by decide +kernel
theorem dX12_town_189 : decode cX12_town 189 = .ok (.iload_n 1, 1) := by decide +kernel
theorem dX12_town_190 : decode cX12_town 190 = .ok (.invokevirtual 403, 3) := by decide +kernel
theorem dX12_town_193 : decode cX12_town 193 = .ok (.goto (-26), 3) := by decide +kernel
theorem dX12_town_196 : decode cX12_town 196 = .ok (.aload_n 0, 1) := by decide +kernel
theorem dX12_town_197 : decode cX12_town 197 = .ok (.aload_n 0, 1) := by decide +kernel
theorem dX12_town_198 : decode cX12_town 198 = .ok (.getfield 36, 3) := by decide +kernel
theorem dX12_town_201 : decode cX12_town 201 = .ok (.putfield 42, 3) := by decide +kernel
theorem dX12_town_204 : decode cX12_town 204 = .ok (.aload_n 0, 1) := by decide +kernel
theorem dX12_town_205 : decode cX12_town 205 = .ok (.aload_n 0, 1) := by decide +kernel
theorem dX12_town_206 : decode cX12_town 206 = .ok (.getfield 39, 3) := by decide +kernel
theorem dX12_town_209 : decode cX12_town 209 = .ok (.putfield 45, 3) := by decide +kernel
theorem dX12_town_212 : decode cX12_town 212 = .ok (.aload_n 0, 1) := by decide +kernel
theorem dX12_town_213 : decode cX12_town 213 = .ok (.getfield 36, 3) := by decide +kernel
theorem dX12_town_216 : decode cX12_town 216 = .ok (.ifCond .le 9, 3) := by decide +kernel
theorem dX12_town_219 : decode cX12_town 219 = .ok (.aload_n 0, 1) := by decide +kernel
theorem dX12_town_220 : decode cX12_town 220 = .ok (.iconst 1, 1) := by decide +kernel
theorem dX12_town_221 : decode cX12_town 221 = .ok (.invokevirtual 219, 3) := by decide +kernel
theorem dX12_town_224 : decode cX12_town 224 = .ok (.ireturn, 1) := by decide +kernel
theorem dX12_town_225 : decode cX12_town 225 = .ok (.aload_n 0, 1) := by decide +kernel
theorem dX12_town_226 : decode cX12_town 226 = .ok (.invokevirtual 406, 3) := by decide +kernel
theorem dX12_town_229 : decode cX12_town 229 = .ok (.aload_n 0, 1) := by decide +kernel
theorem dX12_town_230 : decode cX12_town 230 = .ok (.aload_n 0, 1) := by decide +kernel
theorem dX12_town_231 : decode cX12_town 231 = .ok (.getfield 115, 3) := by decide +kernel
theorem dX12_town_234 : decode cX12_town 234 = .ok (.putfield 51, 3) := by decide +kernel
theorem dX12_town_237 : decode cX12_town 237 = .ok (.aload_n 0, 1) := by decide +kernel
theorem dX12_town_238 : decode cX12_town 238 = .ok (.invokevirtual 409, 3) := by decide +kernel
theorem dX12_town_241 : decode cX12_town 241 = .ok (.iload_n 1, 1) := by decide +kernel
theorem dX12_town_242 : decode cX12_town 242 = .ok (.ireturn, 1) := by decide +kernel
theorem dX12_fault_0 : decode cX12_fault 0 = .ok (.iload_n 1, 1) := by decide +kernel
theorem dX12_fault_1 : decode cX12_fault 1 = .ok (.ifCond .ne 10, 3) := by decide +kernel
theorem dX12_fault_4 : decode cX12_fault 4 = .ok (.aload_n 0, 1) := by decide +kernel
theorem dX12_fault_5 : decode cX12_fault 5 = .ok (.getfield 42, 3) := by decide +kernel
theorem dX12_fault_8 : decode cX12_fault 8 = .ok (.goto 16, 3) := by decide +kernel
theorem dX12_fault_11 : decode cX12_fault 11 = .ok (.iload_n 1, 1) := by decide +kernel
theorem dX12_fault_12 : decode cX12_fault 12 = .ok (.iconst 1, 1) := by decide +kernel
theorem dX12_fault_13 : decode cX12_fault 13 = .ok (.if_icmp .ne 10, 3) := by decide +kernel
theorem dX12_fault_16 : decode cX12_fault 16 = .ok (.aload_n 0, 1) := by decide +kernel
theorem dX12_fault_17 : decode cX12_fault 17 = .ok (.getfield 45, 3) := by decide +kernel
theorem dX12_fault_20 : decode cX12_fault 20 = .ok (.goto 4, 3) := by decide +kernel
theorem dX12_fault_23 : decode cX12_fault 23 = .ok (.iconst (-1), 1) := by decide +kernel
theorem dX12_fault_24 : decode cX12_fault 24 = .ok (.ireturn, 1) := by decide +kernel
theorem dX12_refuses_0 : decode cX12_refuses 0 = .ok (.aload_n 0, 1) := by decide +kernel
theorem dX12_refuses_1 : decode cX12_refuses 1 = .ok (.getfield 153, 3) := by decide +kernel
theorem dX12_refuses_4 : decode cX12_refuses 4 = .ok (.iload_n 1, 1) := by decide +kernel
theorem dX12_refuses_5 : decode cX12_refuses 5 = .ok (.dup2, 1) := by decide +kernel
theorem dX12_refuses_6 : decode cX12_refuses 6 = .ok (.iaload, 1) := by decide +kernel
theorem dX12_refuses_7 : decode cX12_refuses 7 = .ok (.iconst 1, 1) := by decide +kernel
theorem dX12_refuses_8 : decode cX12_refuses 8 = .ok (.iadd, 1) := by decide +kernel
theorem dX12_refuses_9 : decode cX12_refuses 9 = .ok (.iastore, 1) := by decide +kernel
theorem dX12_refuses_10 : decode cX12_refuses 10 = .ok (.iconst (-1), 1) := by decide +kernel
theorem dX12_refuses_11 : decode cX12_refuses 11 = .ok (.ireturn, 1) := by decide +kernel
theorem dX12_status_0 : decode cX12_status 0 = .ok (.iload_n 1, 1) := by decide +kernel
theorem dX12_status_1 : decode cX12_status 1 = .ok (.iconst 0, 1) := by decide +kernel
theorem dX12_status_2 : decode cX12_status 2 = .ok (.iconst 5, 1) := by decide +kernel
theorem dX12_status_3 : decode cX12_status 3 = .ok (.invokestatic 305, 3) := by decide +kernel
theorem dX12_status_6 : decode cX12_status 6 = .ok (.ifCond .eq 12, 3) := by decide +kernel
theorem dX12_status_9 : decode cX12_status 9 = .ok (.aload_n 0, 1) := by decide +kernel
theorem dX12_status_10 : decode cX12_status 10 = .ok (.getfield 153, 3) := by decide +kernel
theorem dX12_status_13 : decode cX12_status 13 = .ok (.iload_n 1, 1) := by decide +kernel
theorem dX12_status_14 : decode cX12_status 14 = .ok (.iaload, 1) := by decide +kernel
theorem dX12_status_15 : decode cX12_status 15 = .ok (.goto 4, 3) := by decide +kernel
theorem dX12_status_18 : decode cX12_status 18 = .ok (.iconst (-1), 1) := by decide +kernel
theorem dX12_status_19 : decode cX12_status 19 = .ok (.ireturn, 1) := by decide +kernel
theorem dX12_copies_0 : decode cX12_copies 0 = .ok (.aload_n 0, 1) := by decide +kernel
theorem dX12_copies_1 : decode cX12_copies 1 = .ok (.getfield 156, 3) := by decide +kernel
theorem dX12_copies_4 : decode cX12_copies 4 = .ok (.iload_n 1, 1) := by decide +kernel
theorem dX12_copies_5 : decode cX12_copies 5 = .ok (.aload_n 0, 1) := by decide +kernel
theorem dX12_copies_6 : decode cX12_copies 6 = .ok (.getfield 156, 3) := by decide +kernel
theorem dX12_copies_9 : decode cX12_copies 9 = .ok (.iload_n 2, 1) := by decide +kernel
theorem dX12_copies_10 : decode cX12_copies 10 = .ok (.iaload, 1) := by decide +kernel
theorem dX12_copies_11 : decode cX12_copies 11 = .ok (.iastore, 1) := by decide +kernel
theorem dX12_copies_12 : decode cX12_copies 12 = .ok (.aload_n 0, 1) := by decide +kernel
theorem dX12_copies_13 : decode cX12_copies 13 = .ok (.getfield 165, 3) := by decide +kernel
theorem dX12_copies_16 : decode cX12_copies 16 = .ok (.iload_n 1, 1) := by decide +kernel
theorem dX12_copies_17 : decode cX12_copies 17 = .ok (.aload_n 0, 1) := by decide +kernel
theorem dX12_copies_18 : decode cX12_copies 18 = .ok (.getfield 165, 3) := by decide +kernel
theorem dX12_copies_21 : decode cX12_copies 21 = .ok (.iload_n 2, 1) := by decide +kernel
theorem dX12_copies_22 : decode cX12_copies 22 = .ok (.iaload, 1) := by decide +kernel
theorem dX12_copies_23 : decode cX12_copies 23 = .ok (.iastore, 1) := by decide +kernel
theorem dX12_copies_24 : decode cX12_copies 24 = .ok (.iconst 0, 1) := by decide +kernel
theorem dX12_copies_25 : decode cX12_copies 25 = .ok (.istore_n 3, 1) := by decide +kernel
theorem dX12_copies_26 : decode cX12_copies 26 = .ok (.iload_n 3, 1) := by decide +kernel
theorem dX12_copies_27 : decode cX12_copies 27 = .ok (.iconst 5, 1) := by decide +kernel
theorem dX12_copies_28 : decode cX12_copies 28 = .ok (.if_icmp .ge 49, 3) := by decide +kernel
theorem dX12_copies_31 : decode cX12_copies 31 = .ok (.aload_n 0, 1) := by decide +kernel
theorem dX12_copies_32 : decode cX12_copies 32 = .ok (.getfield 159, 3) := by decide +kernel
theorem dX12_copies_35 : decode cX12_copies 35 = .ok (.iconst 5, 1) := by decide +kernel
theorem dX12_copies_36 : decode cX12_copies 36 = .ok (.iload_n 1, 1) := by decide +kernel
theorem dX12_copies_37 : decode cX12_copies 37 = .ok (.imul, 1) := by decide +kernel
theorem dX12_copies_38 : decode cX12_copies 38 = .ok (.iload_n 3, 1) := by decide +kernel
theorem dX12_copies_39 : decode cX12_copies 39 = .ok (.iadd, 1) := by decide +kernel
theorem dX12_copies_40 : decode cX12_copies 40 = .ok (.aload_n 0, 1) := by decide +kernel
theorem dX12_copies_41 : decode cX12_copies 41 = .ok (.getfield 159, 3) := by decide +kernel
theorem dX12_copies_44 : decode cX12_copies 44 = .ok (.iconst 5, 1) := by decide +kernel
theorem dX12_copies_45 : decode cX12_copies 45 = .ok (.iload_n 2, 1) := by decide +kernel
theorem dX12_copies_46 : decode cX12_copies 46 = .ok (.imul, 1) := by decide +kernel
theorem dX12_copies_47 : decode cX12_copies 47 = .ok (.iload_n 3, 1) := by decide +kernel
theorem dX12_copies_48 : decode cX12_copies 48 = .ok (.iadd, 1) := by decide +kernel
theorem dX12_copies_49 : decode cX12_copies 49 = .ok (.iaload, 1) := by decide +kernel
theorem dX12_copies_50 : decode cX12_copies 50 = .ok (.iastore, 1) := by decide +kernel
theorem dX12_copies_51 : decode cX12_copies 51 = .ok (.aload_n 0, 1) := by decide +kernel
theorem dX12_copies_52 : decode cX12_copies 52 = .ok (.getfield 162, 3) := by decide +kernel
theorem dX12_copies_55 : decode cX12_copies 55 = .ok (.iconst 5, 1) := by decide +kernel
theorem dX12_copies_56 : decode cX12_copies 56 = .ok (.iload_n 1, 1) := by decide +kernel
theorem dX12_copies_57 : decode cX12_copies 57 = .ok (.imul, 1) := by decide +kernel
theorem dX12_copies_58 : decode cX12_copies 58 = .ok (.iload_n 3, 1) := by decide +kernel
theorem dX12_copies_59 : decode cX12_copies 59 = .ok (.iadd, 1) := by decide +kernel
theorem dX12_copies_60 : decode cX12_copies 60 = .ok (.aload_n 0, 1) := by decide +kernel
theorem dX12_copies_61 : decode cX12_copies 61 = .ok (.getfield 162, 3) := by decide +kernel
theorem dX12_copies_64 : decode cX12_copies 64 = .ok (.iconst 5, 1) := by decide +kernel
theorem dX12_copies_65 : decode cX12_copies 65 = .ok (.iload_n 2, 1) := by decide +kernel
theorem dX12_copies_66 : decode cX12_copies 66 = .ok (.imul, 1) := by decide +kernel
theorem dX12_copies_67 : decode cX12_copies 67 = .ok (.iload_n 3, 1) := by decide +kernel
theorem dX12_copies_68 : decode cX12_copies 68 = .ok (.iadd, 1) := by decide +kernel
theorem dX12_copies_69 : decode cX12_copies 69 = .ok (.iaload, 1) := by decide +kernel
theorem dX12_copies_70 : decode cX12_copies 70 = .ok (.iastore, 1) := by decide +kernel
theorem dX12_copies_71 : decode cX12_copies 71 = .ok (.iinc 3 1, 3) := by decide +kernel
theorem dX12_copies_74 : decode cX12_copies 74 = .ok (.goto (-48), 3) := by decide +kernel
theorem dX12_copies_77 : decode cX12_copies 77 = .ok (.aload_n 0, 1) := by decide +kernel
theorem dX12_copies_78 : decode cX12_copies 78 = .ok (.getfield 168, 3) := by decide +kernel
theorem dX12_copies_81 : decode cX12_copies 81 = .ok (.iload_n 1, 1) := by decide +kernel
theorem dX12_copies_82 : decode cX12_copies 82 = .ok (.aload_n 0, 1) := by decide +kernel
theorem dX12_copies_83 : decode cX12_copies 83 = .ok (.getfield 168, 3) := by decide +kernel
theorem dX12_copies_86 : decode cX12_copies 86 = .ok (.iload_n 2, 1) := by decide +kernel
theorem dX12_copies_87 : decode cX12_copies 87 = .ok (.iaload, 1) := by decide +kernel
theorem dX12_copies_88 : decode cX12_copies 88 = .ok (.iastore, 1) := by decide +kernel
theorem dX12_copies_89 : decode cX12_copies 89 = .ok (.iconst 0, 1) := by decide +kernel
theorem dX12_copies_90 : decode cX12_copies 90 = .ok (.istore_n 3, 1) := by decide +kernel
theorem dX12_copies_91 : decode cX12_copies 91 = .ok (.iload_n 3, 1) := by decide +kernel
theorem dX12_copies_92 : decode cX12_copies 92 = .ok (.iconst 2, 1) := by decide +kernel
theorem dX12_copies_93 : decode cX12_copies 93 = .ok (.aload_n 0, 1) := by decide +kernel
theorem dX12_copies_94 : decode cX12_copies 94 = .ok (.getfield 168, 3) := by decide +kernel
theorem dX12_copies_97 : decode cX12_copies 97 = .ok (.iload_n 2, 1) := by decide +kernel
theorem dX12_copies_98 : decode cX12_copies 98 = .ok (.iaload, 1) := by decide +kernel
theorem dX12_copies_99 : decode cX12_copies 99 = .ok (.imul, 1) := by decide +kernel
theorem dX12_copies_100 : decode cX12_copies 100 = .ok (.if_icmp .ge 31, 3) := by decide +kernel
theorem dX12_copies_103 : decode cX12_copies 103 = .ok (.aload_n 0, 1) := by decide +kernel
theorem dX12_copies_104 : decode cX12_copies 104 = .ok (.getfield 171, 3) := by decide +kernel
theorem dX12_copies_107 : decode cX12_copies 107 = .ok (.bipush 80, 2) := by decide +kernel
theorem dX12_copies_109 : decode cX12_copies 109 = .ok (.iload_n 1, 1) := by decide +kernel
theorem dX12_copies_110 : decode cX12_copies 110 = .ok (.imul, 1) := by decide +kernel
theorem dX12_copies_111 : decode cX12_copies 111 = .ok (.iload_n 3, 1) := by decide +kernel
theorem dX12_copies_112 : decode cX12_copies 112 = .ok (.iadd, 1) := by decide +kernel
theorem dX12_copies_113 : decode cX12_copies 113 = .ok (.aload_n 0, 1) := by decide +kernel
theorem dX12_copies_114 : decode cX12_copies 114 = .ok (.getfield 171, 3) := by decide +kernel
theorem dX12_copies_117 : decode cX12_copies 117 = .ok (.bipush 80, 2) := by decide +kernel
theorem dX12_copies_119 : decode cX12_copies 119 = .ok (.iload_n 2, 1) := by decide +kernel
theorem dX12_copies_120 : decode cX12_copies 120 = .ok (.imul, 1) := by decide +kernel
theorem dX12_copies_121 : decode cX12_copies 121 = .ok (.iload_n 3, 1) := by decide +kernel
theorem dX12_copies_122 : decode cX12_copies 122 = .ok (.iadd, 1) := by decide +kernel
theorem dX12_copies_123 : decode cX12_copies 123 = .ok (.iaload, 1) := by decide +kernel
theorem dX12_copies_124 : decode cX12_copies 124 = .ok (.iastore, 1) := by decide +kernel
theorem dX12_copies_125 : decode cX12_copies 125 = .ok (.iinc 3 1, 3) := by decide +kernel
theorem dX12_copies_128 : decode cX12_copies 128 = .ok (.goto (-37), 3) := by decide +kernel
theorem dX12_copies_131 : decode cX12_copies 131 = .ok (.return_, 1) := by decide +kernel
theorem dX12_begin_0 : decode cX12_begin 0 = .ok (.aload_n 0, 1) := by decide +kernel
theorem dX12_begin_1 : decode cX12_begin 1 = .ok (.getfield 156, 3) := by decide +kernel
theorem dX12_begin_4 : decode cX12_begin 4 = .ok (.iconst 0, 1) := by decide +kernel
theorem dX12_begin_5 : decode cX12_begin 5 = .ok (.iconst 0, 1) := by decide +kernel
theorem dX12_begin_6 : decode cX12_begin 6 = .ok (.iastore, 1) := by decide +kernel
theorem dX12_begin_7 : decode cX12_begin 7 = .ok (.aload_n 0, 1) := by decide +kernel
theorem dX12_begin_8 : decode cX12_begin 8 = .ok (.getfield 165, 3) := by decide +kernel
theorem dX12_begin_11 : decode cX12_begin 11 = .ok (.iconst 0, 1) := by decide +kernel
theorem dX12_begin_12 : decode cX12_begin 12 = .ok (.iconst 0, 1) := by decide +kernel
theorem dX12_begin_13 : decode cX12_begin 13 = .ok (.iastore, 1) := by decide +kernel
theorem dX12_begin_14 : decode cX12_begin 14 = .ok (.iconst 0, 1) := by decide +kernel
theorem dX12_begin_15 : decode cX12_begin 15 = .ok (.istore_n 1, 1) := by decide +kernel
theorem dX12_begin_16 : decode cX12_begin 16 = .ok (.iload_n 1, 1) := by decide +kernel
theorem dX12_begin_17 : decode cX12_begin 17 = .ok (.aload_n 0, 1) := by decide +kernel
theorem dX12_begin_18 : decode cX12_begin 18 = .ok (.getfield 63, 3) := by decide +kernel
theorem dX12_begin_21 : decode cX12_begin 21 = .ok (.aload_n 0, 1) := by decide +kernel
theorem dX12_begin_22 : decode cX12_begin 22 = .ok (.getfield 51, 3) := by decide +kernel
theorem dX12_begin_25 : decode cX12_begin 25 = .ok (.iaload, 1) := by decide +kernel
theorem dX12_begin_26 : decode cX12_begin 26 = .ok (.if_icmp .ge 35, 3) := by decide +kernel
theorem dX12_begin_29 : decode cX12_begin 29 = .ok (.aload_n 0, 1) := by decide +kernel
theorem dX12_begin_30 : decode cX12_begin 30 = .ok (.getfield 159, 3) := by decide +kernel
theorem dX12_begin_33 : decode cX12_begin 33 = .ok (.iload_n 1, 1) := by decide +kernel
theorem dX12_begin_34 : decode cX12_begin 34 = .ok (.aload_n 0, 1) := by decide +kernel
theorem dX12_begin_35 : decode cX12_begin 35 = .ok (.getfield 66, 3) := by decide +kernel
theorem dX12_begin_38 : decode cX12_begin 38 = .ok (.iconst 5, 1) := by decide +kernel
theorem dX12_begin_39 : decode cX12_begin 39 = .ok (.aload_n 0, 1) := by decide +kernel
theorem dX12_begin_40 : decode cX12_begin 40 = .ok (.getfield 51, 3) := by decide +kernel
theorem dX12_begin_43 : decode cX12_begin 43 = .ok (.imul, 1) := by decide +kernel
theorem dX12_begin_44 : decode cX12_begin 44 = .ok (.iload_n 1, 1) := by decide +kernel
theorem dX12_begin_45 : decode cX12_begin 45 = .ok (.iadd, 1) := by decide +kernel
theorem dX12_begin_46 : decode cX12_begin 46 = .ok (.iaload, 1) := by decide +kernel
theorem dX12_begin_47 : decode cX12_begin 47 = .ok (.iastore, 1) := by decide +kernel
theorem dX12_begin_48 : decode cX12_begin 48 = .ok (.aload_n 0, 1) := by decide +kernel
theorem dX12_begin_49 : decode cX12_begin 49 = .ok (.getfield 162, 3) := by decide +kernel
theorem dX12_begin_52 : decode cX12_begin 52 = .ok (.iload_n 1, 1) := by decide +kernel
theorem dX12_begin_53 : decode cX12_begin 53 = .ok (.iconst 0, 1) := by decide +kernel
theorem dX12_begin_54 : decode cX12_begin 54 = .ok (.iastore, 1) := by decide +kernel
theorem dX12_begin_55 : decode cX12_begin 55 = .ok (.iinc 1 1, 3) := by decide +kernel
theorem dX12_begin_58 : decode cX12_begin 58 = .ok (.goto (-42), 3) := by decide +kernel
theorem dX12_begin_61 : decode cX12_begin 61 = .ok (.aload_n 0, 1) := by decide +kernel
theorem dX12_begin_62 : decode cX12_begin 62 = .ok (.getfield 168, 3) := by decide +kernel
theorem dX12_begin_65 : decode cX12_begin 65 = .ok (.iconst 0, 1) := by decide +kernel
theorem dX12_begin_66 : decode cX12_begin 66 = .ok (.iconst 0, 1) := by decide +kernel
theorem dX12_begin_67 : decode cX12_begin 67 = .ok (.iastore, 1) := by decide +kernel
theorem dX12_begin_68 : decode cX12_begin 68 = .ok (.aload_n 0, 1) := by decide +kernel
theorem dX12_begin_69 : decode cX12_begin 69 = .ok (.iconst 0, 1) := by decide +kernel
theorem dX12_begin_70 : decode cX12_begin 70 = .ok (.putfield 177, 3) := by decide +kernel
theorem dX12_begin_73 : decode cX12_begin 73 = .ok (.aload_n 0, 1) := by decide +kernel
theorem dX12_begin_74 : decode cX12_begin 74 = .ok (.iconst 0, 1) := by decide +kernel
theorem dX12_begin_75 : decode cX12_begin 75 = .ok (.putfield 198, 3) := by decide +kernel
theorem dX12_begin_78 : decode cX12_begin 78 = .ok (.aload_n 0, 1) := by decide +kernel
theorem dX12_begin_79 : decode cX12_begin 79 = .ok (.iconst 0, 1) := by decide +kernel
theorem dX12_begin_80 : decode cX12_begin 80 = .ok (.invokevirtual 412, 3) := by decide +kernel
