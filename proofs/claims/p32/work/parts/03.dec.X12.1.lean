def ldX12_goesOn_243 : List (Nat × ClassFile.Instr × Nat) := [(243, .bipush 38, 2), (245, .goto 19, 3), (248, .aload_n 0, 1), (249, .bipush 62, 2), (251, .invokevirtual 241, 3), (254, .ifCond .eq 8, 3), (257, .bipush 39, 2), (259, .goto 5, 3), (262, .bipush 40, 2), (264, .invokevirtual 325, 3), (267, .aload_n 0, 1), (268, .getfield 125, 3), (271, .iload_n 1, 1), (272, .iconst 1, 1), (273, .iastore, 1), (274, .aload_n 0, 1)]
theorem kdX12_goesOn_243 : dkO cX12_goesOn 243 ldX12_goesOn_243 = true := by decide +kernel
theorem dX12_goesOn_243 : decode cX12_goesOn 243 = .ok (.bipush 38, 2) := dk_i kdX12_goesOn_243 0 rfl
theorem dX12_goesOn_245 : decode cX12_goesOn 245 = .ok (.goto 19, 3) := dk_i kdX12_goesOn_243 1 rfl
theorem dX12_goesOn_248 : decode cX12_goesOn 248 = .ok (.aload_n 0, 1) := dk_i kdX12_goesOn_243 2 rfl
theorem dX12_goesOn_249 : decode cX12_goesOn 249 = .ok (.bipush 62, 2) := dk_i kdX12_goesOn_243 3 rfl
theorem dX12_goesOn_251 : decode cX12_goesOn 251 = .ok (.invokevirtual 241, 3) := dk_i kdX12_goesOn_243 4 rfl
theorem dX12_goesOn_254 : decode cX12_goesOn 254 = .ok (.ifCond .eq 8, 3) := dk_i kdX12_goesOn_243 5 rfl
theorem dX12_goesOn_257 : decode cX12_goesOn 257 = .ok (.bipush 39, 2) := dk_i kdX12_goesOn_243 6 rfl
theorem dX12_goesOn_259 : decode cX12_goesOn 259 = .ok (.goto 5, 3) := dk_i kdX12_goesOn_243 7 rfl
theorem dX12_goesOn_262 : decode cX12_goesOn 262 = .ok (.bipush 40, 2) := dk_i kdX12_goesOn_243 8 rfl
theorem dX12_goesOn_264 : decode cX12_goesOn 264 = .ok (.invokevirtual 325, 3) := dk_i kdX12_goesOn_243 9 rfl
theorem dX12_goesOn_267 : decode cX12_goesOn 267 = .ok (.aload_n 0, 1) := dk_i kdX12_goesOn_243 10 rfl
theorem dX12_goesOn_268 : decode cX12_goesOn 268 = .ok (.getfield 125, 3) := dk_i kdX12_goesOn_243 11 rfl
theorem dX12_goesOn_271 : decode cX12_goesOn 271 = .ok (.iload_n 1, 1) := dk_i kdX12_goesOn_243 12 rfl
theorem dX12_goesOn_272 : decode cX12_goesOn 272 = .ok (.iconst 1, 1) := dk_i kdX12_goesOn_243 13 rfl
theorem dX12_goesOn_273 : decode cX12_goesOn 273 = .ok (.iastore, 1) := dk_i kdX12_goesOn_243 14 rfl
theorem dX12_goesOn_274 : decode cX12_goesOn 274 = .ok (.aload_n 0, 1) := dk_i kdX12_goesOn_243 15 rfl
def ldX12_goesOn_275 : List (Nat × ClassFile.Instr × Nat) := [(275, .invokevirtual 244, 3), (278, .aload_n 0, 1), (279, .iconst 0, 1), (280, .putfield 150, 3), (283, .iconst 1, 1), (284, .ireturn, 1), (285, .iload_n 3, 1), (286, .ifCond .eq 114, 3), (289, .aload_n 0, 1), (290, .ldc2_w 287, 3), (293, .invokevirtual 321, 3), (296, .ifCond .ne 13, 3), (299, .aload_n 0, 1), (300, .ldc2_w 285, 3), (303, .invokevirtual 321, 3), (306, .ifCond .eq 94, 3)]
theorem kdX12_goesOn_275 : dkO cX12_goesOn 275 ldX12_goesOn_275 = true := by decide +kernel
theorem dX12_goesOn_275 : decode cX12_goesOn 275 = .ok (.invokevirtual 244, 3) := dk_i kdX12_goesOn_275 0 rfl
theorem dX12_goesOn_278 : decode cX12_goesOn 278 = .ok (.aload_n 0, 1) := dk_i kdX12_goesOn_275 1 rfl
theorem dX12_goesOn_279 : decode cX12_goesOn 279 = .ok (.iconst 0, 1) := dk_i kdX12_goesOn_275 2 rfl
theorem dX12_goesOn_280 : decode cX12_goesOn 280 = .ok (.putfield 150, 3) := dk_i kdX12_goesOn_275 3 rfl
theorem dX12_goesOn_283 : decode cX12_goesOn 283 = .ok (.iconst 1, 1) := dk_i kdX12_goesOn_275 4 rfl
theorem dX12_goesOn_284 : decode cX12_goesOn 284 = .ok (.ireturn, 1) := dk_i kdX12_goesOn_275 5 rfl
theorem dX12_goesOn_285 : decode cX12_goesOn 285 = .ok (.iload_n 3, 1) := dk_i kdX12_goesOn_275 6 rfl
theorem dX12_goesOn_286 : decode cX12_goesOn 286 = .ok (.ifCond .eq 114, 3) := dk_i kdX12_goesOn_275 7 rfl
theorem dX12_goesOn_289 : decode cX12_goesOn 289 = .ok (.aload_n 0, 1) := dk_i kdX12_goesOn_275 8 rfl
theorem dX12_goesOn_290 : decode cX12_goesOn 290 = .ok (.ldc2_w 287, 3) := dk_i kdX12_goesOn_275 9 rfl
theorem dX12_goesOn_293 : decode cX12_goesOn 293 = .ok (.invokevirtual 321, 3) := dk_i kdX12_goesOn_275 10 rfl
theorem dX12_goesOn_296 : decode cX12_goesOn 296 = .ok (.ifCond .ne 13, 3) := dk_i kdX12_goesOn_275 11 rfl
theorem dX12_goesOn_299 : decode cX12_goesOn 299 = .ok (.aload_n 0, 1) := dk_i kdX12_goesOn_275 12 rfl
theorem dX12_goesOn_300 : decode cX12_goesOn 300 = .ok (.ldc2_w 285, 3) := dk_i kdX12_goesOn_275 13 rfl
theorem dX12_goesOn_303 : decode cX12_goesOn 303 = .ok (.invokevirtual 321, 3) := dk_i kdX12_goesOn_275 14 rfl
theorem dX12_goesOn_306 : decode cX12_goesOn 306 = .ok (.ifCond .eq 94, 3) := dk_i kdX12_goesOn_275 15 rfl
def ldX12_goesOn_309 : List (Nat × ClassFile.Instr × Nat) := [(309, .aload_n 0, 1), (310, .getfield 125, 3), (313, .iload_n 1, 1), (314, .iaload, 1), (315, .ifCond .ne 12, 3), (318, .aload_n 0, 1), (319, .iconst 1, 1), (320, .aload_n 0, 1), (321, .getfield 23, 3), (324, .invokevirtual 227, 3), (327, .aload_n 0, 1), (328, .getfield 36, 3), (331, .ifCond .le 5, 3), (334, .iconst 0, 1), (335, .ireturn, 1), (336, .aload_n 0, 1)]
theorem kdX12_goesOn_309 : dkO cX12_goesOn 309 ldX12_goesOn_309 = true := by decide +kernel
theorem dX12_goesOn_309 : decode cX12_goesOn 309 = .ok (.aload_n 0, 1) := dk_i kdX12_goesOn_309 0 rfl
theorem dX12_goesOn_310 : decode cX12_goesOn 310 = .ok (.getfield 125, 3) := dk_i kdX12_goesOn_309 1 rfl
theorem dX12_goesOn_313 : decode cX12_goesOn 313 = .ok (.iload_n 1, 1) := dk_i kdX12_goesOn_309 2 rfl
theorem dX12_goesOn_314 : decode cX12_goesOn 314 = .ok (.iaload, 1) := dk_i kdX12_goesOn_309 3 rfl
theorem dX12_goesOn_315 : decode cX12_goesOn 315 = .ok (.ifCond .ne 12, 3) := dk_i kdX12_goesOn_309 4 rfl
theorem dX12_goesOn_318 : decode cX12_goesOn 318 = .ok (.aload_n 0, 1) := dk_i kdX12_goesOn_309 5 rfl
theorem dX12_goesOn_319 : decode cX12_goesOn 319 = .ok (.iconst 1, 1) := dk_i kdX12_goesOn_309 6 rfl
theorem dX12_goesOn_320 : decode cX12_goesOn 320 = .ok (.aload_n 0, 1) := dk_i kdX12_goesOn_309 7 rfl
theorem dX12_goesOn_321 : decode cX12_goesOn 321 = .ok (.getfield 23, 3) := dk_i kdX12_goesOn_309 8 rfl
theorem dX12_goesOn_324 : decode cX12_goesOn 324 = .ok (.invokevirtual 227, 3) := dk_i kdX12_goesOn_309 9 rfl
theorem dX12_goesOn_327 : decode cX12_goesOn 327 = .ok (.aload_n 0, 1) := dk_i kdX12_goesOn_309 10 rfl
theorem dX12_goesOn_328 : decode cX12_goesOn 328 = .ok (.getfield 36, 3) := dk_i kdX12_goesOn_309 11 rfl
theorem dX12_goesOn_331 : decode cX12_goesOn 331 = .ok (.ifCond .le 5, 3) := dk_i kdX12_goesOn_309 12 rfl
theorem dX12_goesOn_334 : decode cX12_goesOn 334 = .ok (.iconst 0, 1) := dk_i kdX12_goesOn_309 13 rfl
theorem dX12_goesOn_335 : decode cX12_goesOn 335 = .ok (.ireturn, 1) := dk_i kdX12_goesOn_309 14 rfl
theorem dX12_goesOn_336 : decode cX12_goesOn 336 = .ok (.aload_n 0, 1) := dk_i kdX12_goesOn_309 15 rfl
def ldX12_goesOn_337 : List (Nat × ClassFile.Instr × Nat) := [(337, .ldc2_w 287, 3), (340, .invokevirtual 321, 3), (343, .istore 4, 2), (345, .aload_n 0, 1), (346, .iload 4, 2), (348, .ifCond .eq 7, 3), (351, .iconst 2, 1), (352, .goto 4, 3), (355, .iconst 1, 1), (356, .invokevirtual 331, 3), (359, .aload_n 0, 1), (360, .iload 4, 2), (362, .ifCond .eq 8, 3), (365, .bipush 41, 2), (367, .goto 5, 3), (370, .bipush 42, 2)]
theorem kdX12_goesOn_337 : dkO cX12_goesOn 337 ldX12_goesOn_337 = true := by decide +kernel
theorem dX12_goesOn_337 : decode cX12_goesOn 337 = .ok (.ldc2_w 287, 3) := dk_i kdX12_goesOn_337 0 rfl
theorem dX12_goesOn_340 : decode cX12_goesOn 340 = .ok (.invokevirtual 321, 3) := dk_i kdX12_goesOn_337 1 rfl
theorem dX12_goesOn_343 : decode cX12_goesOn 343 = .ok (.istore 4, 2) := dk_i kdX12_goesOn_337 2 rfl
theorem dX12_goesOn_345 : decode cX12_goesOn 345 = .ok (.aload_n 0, 1) := dk_i kdX12_goesOn_337 3 rfl
theorem dX12_goesOn_346 : decode cX12_goesOn 346 = .ok (.iload 4, 2) := dk_i kdX12_goesOn_337 4 rfl
theorem dX12_goesOn_348 : decode cX12_goesOn 348 = .ok (.ifCond .eq 7, 3) := dk_i kdX12_goesOn_337 5 rfl
theorem dX12_goesOn_351 : decode cX12_goesOn 351 = .ok (.iconst 2, 1) := dk_i kdX12_goesOn_337 6 rfl
theorem dX12_goesOn_352 : decode cX12_goesOn 352 = .ok (.goto 4, 3) := dk_i kdX12_goesOn_337 7 rfl
theorem dX12_goesOn_355 : decode cX12_goesOn 355 = .ok (.iconst 1, 1) := dk_i kdX12_goesOn_337 8 rfl
theorem dX12_goesOn_356 : decode cX12_goesOn 356 = .ok (.invokevirtual 331, 3) := dk_i kdX12_goesOn_337 9 rfl
theorem dX12_goesOn_359 : decode cX12_goesOn 359 = .ok (.aload_n 0, 1) := dk_i kdX12_goesOn_337 10 rfl
theorem dX12_goesOn_360 : decode cX12_goesOn 360 = .ok (.iload 4, 2) := dk_i kdX12_goesOn_337 11 rfl
theorem dX12_goesOn_362 : decode cX12_goesOn 362 = .ok (.ifCond .eq 8, 3) := dk_i kdX12_goesOn_337 12 rfl
theorem dX12_goesOn_365 : decode cX12_goesOn 365 = .ok (.bipush 41, 2) := dk_i kdX12_goesOn_337 13 rfl
theorem dX12_goesOn_367 : decode cX12_goesOn 367 = .ok (.goto 5, 3) := dk_i kdX12_goesOn_337 14 rfl
theorem dX12_goesOn_370 : decode cX12_goesOn 370 = .ok (.bipush 42, 2) := dk_i kdX12_goesOn_337 15 rfl
def ldX12_goesOn_372 : List (Nat × ClassFile.Instr × Nat) := [(372, .invokevirtual 325, 3), (375, .aload_n 0, 1), (376, .getfield 125, 3), (379, .iload_n 1, 1), (380, .iconst 0, 1), (381, .iastore, 1), (382, .aload_n 0, 1), (383, .getfield 128, 3), (386, .iload_n 1, 1), (387, .iconst 1, 1), (388, .bastore, 1), (389, .aload_n 0, 1), (390, .invokevirtual 244, 3), (393, .aload_n 0, 1), (394, .iconst 0, 1), (395, .putfield 150, 3)]
theorem kdX12_goesOn_372 : dkO cX12_goesOn 372 ldX12_goesOn_372 = true := by decide +kernel
theorem dX12_goesOn_372 : decode cX12_goesOn 372 = .ok (.invokevirtual 325, 3) := dk_i kdX12_goesOn_372 0 rfl
theorem dX12_goesOn_375 : decode cX12_goesOn 375 = .ok (.aload_n 0, 1) := dk_i kdX12_goesOn_372 1 rfl
theorem dX12_goesOn_376 : decode cX12_goesOn 376 = .ok (.getfield 125, 3) := dk_i kdX12_goesOn_372 2 rfl
theorem dX12_goesOn_379 : decode cX12_goesOn 379 = .ok (.iload_n 1, 1) := dk_i kdX12_goesOn_372 3 rfl
theorem dX12_goesOn_380 : decode cX12_goesOn 380 = .ok (.iconst 0, 1) := dk_i kdX12_goesOn_372 4 rfl
theorem dX12_goesOn_381 : decode cX12_goesOn 381 = .ok (.iastore, 1) := dk_i kdX12_goesOn_372 5 rfl
theorem dX12_goesOn_382 : decode cX12_goesOn 382 = .ok (.aload_n 0, 1) := dk_i kdX12_goesOn_372 6 rfl
theorem dX12_goesOn_383 : decode cX12_goesOn 383 = .ok (.getfield 128, 3) := dk_i kdX12_goesOn_372 7 rfl
theorem dX12_goesOn_386 : decode cX12_goesOn 386 = .ok (.iload_n 1, 1) := dk_i kdX12_goesOn_372 8 rfl
theorem dX12_goesOn_387 : decode cX12_goesOn 387 = .ok (.iconst 1, 1) := dk_i kdX12_goesOn_372 9 rfl
theorem dX12_goesOn_388 : decode cX12_goesOn 388 = .ok (.bastore, 1) := dk_i kdX12_goesOn_372 10 rfl
theorem dX12_goesOn_389 : decode cX12_goesOn 389 = .ok (.aload_n 0, 1) := dk_i kdX12_goesOn_372 11 rfl
theorem dX12_goesOn_390 : decode cX12_goesOn 390 = .ok (.invokevirtual 244, 3) := dk_i kdX12_goesOn_372 12 rfl
theorem dX12_goesOn_393 : decode cX12_goesOn 393 = .ok (.aload_n 0, 1) := dk_i kdX12_goesOn_372 13 rfl
theorem dX12_goesOn_394 : decode cX12_goesOn 394 = .ok (.iconst 0, 1) := dk_i kdX12_goesOn_372 14 rfl
theorem dX12_goesOn_395 : decode cX12_goesOn 395 = .ok (.putfield 150, 3) := dk_i kdX12_goesOn_372 15 rfl
def ldX12_goesOn_398 : List (Nat × ClassFile.Instr × Nat) := [(398, .iconst 1, 1), (399, .ireturn, 1), (400, .iload_n 3, 1), (401, .ifCond .eq 21, 3), (404, .aload_n 0, 1), (405, .getfield 125, 3), (408, .iload_n 1, 1), (409, .iaload, 1), (410, .ifCond .ne 12, 3), (413, .aload_n 0, 1), (414, .iconst 1, 1), (415, .aload_n 0, 1), (416, .getfield 23, 3), (419, .invokevirtual 227, 3), (422, .iload_n 2, 1), (423, .iconst 2, 1)]
theorem kdX12_goesOn_398 : dkO cX12_goesOn 398 ldX12_goesOn_398 = true := by decide +kernel
theorem dX12_goesOn_398 : decode cX12_goesOn 398 = .ok (.iconst 1, 1) := dk_i kdX12_goesOn_398 0 rfl
theorem dX12_goesOn_399 : decode cX12_goesOn 399 = .ok (.ireturn, 1) := dk_i kdX12_goesOn_398 1 rfl
theorem dX12_goesOn_400 : decode cX12_goesOn 400 = .ok (.iload_n 3, 1) := dk_i kdX12_goesOn_398 2 rfl
theorem dX12_goesOn_401 : decode cX12_goesOn 401 = .ok (.ifCond .eq 21, 3) := dk_i kdX12_goesOn_398 3 rfl
theorem dX12_goesOn_404 : decode cX12_goesOn 404 = .ok (.aload_n 0, 1) := dk_i kdX12_goesOn_398 4 rfl
theorem dX12_goesOn_405 : decode cX12_goesOn 405 = .ok (.getfield 125, 3) := dk_i kdX12_goesOn_398 5 rfl
theorem dX12_goesOn_408 : decode cX12_goesOn 408 = .ok (.iload_n 1, 1) := dk_i kdX12_goesOn_398 6 rfl
theorem dX12_goesOn_409 : decode cX12_goesOn 409 = .ok (.iaload, 1) := dk_i kdX12_goesOn_398 7 rfl
theorem dX12_goesOn_410 : decode cX12_goesOn 410 = .ok (.ifCond .ne 12, 3) := dk_i kdX12_goesOn_398 8 rfl
theorem dX12_goesOn_413 : decode cX12_goesOn 413 = .ok (.aload_n 0, 1) := dk_i kdX12_goesOn_398 9 rfl
theorem dX12_goesOn_414 : decode cX12_goesOn 414 = .ok (.iconst 1, 1) := dk_i kdX12_goesOn_398 10 rfl
theorem dX12_goesOn_415 : decode cX12_goesOn 415 = .ok (.aload_n 0, 1) := dk_i kdX12_goesOn_398 11 rfl
theorem dX12_goesOn_416 : decode cX12_goesOn 416 = .ok (.getfield 23, 3) := dk_i kdX12_goesOn_398 12 rfl
theorem dX12_goesOn_419 : decode cX12_goesOn 419 = .ok (.invokevirtual 227, 3) := dk_i kdX12_goesOn_398 13 rfl
theorem dX12_goesOn_422 : decode cX12_goesOn 422 = .ok (.iload_n 2, 1) := dk_i kdX12_goesOn_398 14 rfl
theorem dX12_goesOn_423 : decode cX12_goesOn 423 = .ok (.iconst 2, 1) := dk_i kdX12_goesOn_398 15 rfl
def ldX12_goesOn_424 : List (Nat × ClassFile.Instr × Nat) := [(424, .if_icmp .ge 17, 3), (427, .aload_n 0, 1), (428, .getfield 36, 3), (431, .ifCond .ne 8, 3), (434, .aload_n 0, 1), (435, .iconst 1, 1), (436, .invokevirtual 331, 3), (439, .iconst 0, 1), (440, .ireturn, 1), (441, .iload_n 2, 1), (442, .iconst 3, 1), (443, .if_icmp .eq 9, 3), (446, .iload_n 2, 1), (447, .bipush 6, 2), (449, .if_icmp .ne 69, 3), (452, .aload_n 0, 1)]
theorem kdX12_goesOn_424 : dkO cX12_goesOn 424 ldX12_goesOn_424 = true := by decide +kernel
theorem dX12_goesOn_424 : decode cX12_goesOn 424 = .ok (.if_icmp .ge 17, 3) := dk_i kdX12_goesOn_424 0 rfl
theorem dX12_goesOn_427 : decode cX12_goesOn 427 = .ok (.aload_n 0, 1) := dk_i kdX12_goesOn_424 1 rfl
theorem dX12_goesOn_428 : decode cX12_goesOn 428 = .ok (.getfield 36, 3) := dk_i kdX12_goesOn_424 2 rfl
theorem dX12_goesOn_431 : decode cX12_goesOn 431 = .ok (.ifCond .ne 8, 3) := dk_i kdX12_goesOn_424 3 rfl
theorem dX12_goesOn_434 : decode cX12_goesOn 434 = .ok (.aload_n 0, 1) := dk_i kdX12_goesOn_424 4 rfl
theorem dX12_goesOn_435 : decode cX12_goesOn 435 = .ok (.iconst 1, 1) := dk_i kdX12_goesOn_424 5 rfl
theorem dX12_goesOn_436 : decode cX12_goesOn 436 = .ok (.invokevirtual 331, 3) := dk_i kdX12_goesOn_424 6 rfl
theorem dX12_goesOn_439 : decode cX12_goesOn 439 = .ok (.iconst 0, 1) := dk_i kdX12_goesOn_424 7 rfl
theorem dX12_goesOn_440 : decode cX12_goesOn 440 = .ok (.ireturn, 1) := dk_i kdX12_goesOn_424 8 rfl
theorem dX12_goesOn_441 : decode cX12_goesOn 441 = .ok (.iload_n 2, 1) := dk_i kdX12_goesOn_424 9 rfl
theorem dX12_goesOn_442 : decode cX12_goesOn 442 = .ok (.iconst 3, 1) := dk_i kdX12_goesOn_424 10 rfl
theorem dX12_goesOn_443 : decode cX12_goesOn 443 = .ok (.if_icmp .eq 9, 3) := dk_i kdX12_goesOn_424 11 rfl
theorem dX12_goesOn_446 : decode cX12_goesOn 446 = .ok (.iload_n 2, 1) := dk_i kdX12_goesOn_424 12 rfl
theorem dX12_goesOn_447 : decode cX12_goesOn 447 = .ok (.bipush 6, 2) := dk_i kdX12_goesOn_424 13 rfl
theorem dX12_goesOn_449 : decode cX12_goesOn 449 = .ok (.if_icmp .ne 69, 3) := dk_i kdX12_goesOn_424 14 rfl
theorem dX12_goesOn_452 : decode cX12_goesOn 452 = .ok (.aload_n 0, 1) := dk_i kdX12_goesOn_424 15 rfl
def ldX12_goesOn_453 : List (Nat × ClassFile.Instr × Nat) := [(453, .bipush 44, 2), (455, .invokevirtual 241, 3), (458, .ifCond .ne 12, 3), (461, .aload_n 0, 1), (462, .iconst 1, 1), (463, .aload_n 0, 1), (464, .getfield 23, 3), (467, .invokevirtual 227, 3), (470, .aload_n 0, 1), (471, .getfield 36, 3), (474, .ifCond .le 5, 3), (477, .iconst 0, 1), (478, .ireturn, 1), (479, .aload_n 0, 1), (480, .iconst 1, 1), (481, .invokevirtual 331, 3)]
theorem kdX12_goesOn_453 : dkO cX12_goesOn 453 ldX12_goesOn_453 = true := by decide +kernel
theorem dX12_goesOn_453 : decode cX12_goesOn 453 = .ok (.bipush 44, 2) := dk_i kdX12_goesOn_453 0 rfl
theorem dX12_goesOn_455 : decode cX12_goesOn 455 = .ok (.invokevirtual 241, 3) := dk_i kdX12_goesOn_453 1 rfl
theorem dX12_goesOn_458 : decode cX12_goesOn 458 = .ok (.ifCond .ne 12, 3) := dk_i kdX12_goesOn_453 2 rfl
theorem dX12_goesOn_461 : decode cX12_goesOn 461 = .ok (.aload_n 0, 1) := dk_i kdX12_goesOn_453 3 rfl
theorem dX12_goesOn_462 : decode cX12_goesOn 462 = .ok (.iconst 1, 1) := dk_i kdX12_goesOn_453 4 rfl
theorem dX12_goesOn_463 : decode cX12_goesOn 463 = .ok (.aload_n 0, 1) := dk_i kdX12_goesOn_453 5 rfl
theorem dX12_goesOn_464 : decode cX12_goesOn 464 = .ok (.getfield 23, 3) := dk_i kdX12_goesOn_453 6 rfl
theorem dX12_goesOn_467 : decode cX12_goesOn 467 = .ok (.invokevirtual 227, 3) := dk_i kdX12_goesOn_453 7 rfl
theorem dX12_goesOn_470 : decode cX12_goesOn 470 = .ok (.aload_n 0, 1) := dk_i kdX12_goesOn_453 8 rfl
theorem dX12_goesOn_471 : decode cX12_goesOn 471 = .ok (.getfield 36, 3) := dk_i kdX12_goesOn_453 9 rfl
theorem dX12_goesOn_474 : decode cX12_goesOn 474 = .ok (.ifCond .le 5, 3) := dk_i kdX12_goesOn_453 10 rfl
theorem dX12_goesOn_477 : decode cX12_goesOn 477 = .ok (.iconst 0, 1) := dk_i kdX12_goesOn_453 11 rfl
theorem dX12_goesOn_478 : decode cX12_goesOn 478 = .ok (.ireturn, 1) := dk_i kdX12_goesOn_453 12 rfl
theorem dX12_goesOn_479 : decode cX12_goesOn 479 = .ok (.aload_n 0, 1) := dk_i kdX12_goesOn_453 13 rfl
theorem dX12_goesOn_480 : decode cX12_goesOn 480 = .ok (.iconst 1, 1) := dk_i kdX12_goesOn_453 14 rfl
theorem dX12_goesOn_481 : decode cX12_goesOn 481 = .ok (.invokevirtual 331, 3) := dk_i kdX12_goesOn_453 15 rfl
def ldX12_goesOn_484 : List (Nat × ClassFile.Instr × Nat) := [(484, .aload_n 0, 1), (485, .getfield 122, 3), (488, .iload_n 1, 1), (489, .iload_n 2, 1), (490, .iconst 3, 1), (491, .if_icmp .ne 7, 3), (494, .iconst 4, 1), (495, .goto 4, 3), (498, .iconst 3, 1), (499, .iastore, 1), (500, .aload_n 0, 1), (501, .getfield 125, 3), (504, .iload_n 1, 1), (505, .iconst 0, 1), (506, .iastore, 1), (507, .aload_n 0, 1)]
theorem kdX12_goesOn_484 : dkO cX12_goesOn 484 ldX12_goesOn_484 = true := by decide +kernel
theorem dX12_goesOn_484 : decode cX12_goesOn 484 = .ok (.aload_n 0, 1) := dk_i kdX12_goesOn_484 0 rfl
theorem dX12_goesOn_485 : decode cX12_goesOn 485 = .ok (.getfield 122, 3) := dk_i kdX12_goesOn_484 1 rfl
theorem dX12_goesOn_488 : decode cX12_goesOn 488 = .ok (.iload_n 1, 1) := dk_i kdX12_goesOn_484 2 rfl
theorem dX12_goesOn_489 : decode cX12_goesOn 489 = .ok (.iload_n 2, 1) := dk_i kdX12_goesOn_484 3 rfl
theorem dX12_goesOn_490 : decode cX12_goesOn 490 = .ok (.iconst 3, 1) := dk_i kdX12_goesOn_484 4 rfl
theorem dX12_goesOn_491 : decode cX12_goesOn 491 = .ok (.if_icmp .ne 7, 3) := dk_i kdX12_goesOn_484 5 rfl
theorem dX12_goesOn_494 : decode cX12_goesOn 494 = .ok (.iconst 4, 1) := dk_i kdX12_goesOn_484 6 rfl
theorem dX12_goesOn_495 : decode cX12_goesOn 495 = .ok (.goto 4, 3) := dk_i kdX12_goesOn_484 7 rfl
theorem dX12_goesOn_498 : decode cX12_goesOn 498 = .ok (.iconst 3, 1) := dk_i kdX12_goesOn_484 8 rfl
theorem dX12_goesOn_499 : decode cX12_goesOn 499 = .ok (.iastore, 1) := dk_i kdX12_goesOn_484 9 rfl
theorem dX12_goesOn_500 : decode cX12_goesOn 500 = .ok (.aload_n 0, 1) := dk_i kdX12_goesOn_484 10 rfl
theorem dX12_goesOn_501 : decode cX12_goesOn 501 = .ok (.getfield 125, 3) := dk_i kdX12_goesOn_484 11 rfl
theorem dX12_goesOn_504 : decode cX12_goesOn 504 = .ok (.iload_n 1, 1) := dk_i kdX12_goesOn_484 12 rfl
theorem dX12_goesOn_505 : decode cX12_goesOn 505 = .ok (.iconst 0, 1) := dk_i kdX12_goesOn_484 13 rfl
theorem dX12_goesOn_506 : decode cX12_goesOn 506 = .ok (.iastore, 1) := dk_i kdX12_goesOn_484 14 rfl
theorem dX12_goesOn_507 : decode cX12_goesOn 507 = .ok (.aload_n 0, 1) := dk_i kdX12_goesOn_484 15 rfl
def ldX12_goesOn_508 : List (Nat × ClassFile.Instr × Nat) := [(508, .invokevirtual 244, 3), (511, .aload_n 0, 1), (512, .iconst 0, 1), (513, .putfield 150, 3), (516, .iconst 1, 1), (517, .ireturn, 1), (518, .aload_n 0, 1), (519, .iload_n 2, 1), (520, .iconst 5, 1), (521, .if_icmp .ne 8, 3), (524, .bipush 93, 2), (526, .goto 5, 3), (529, .bipush 41, 2), (531, .invokevirtual 241, 3), (534, .ifCond .ne 12, 3), (537, .aload_n 0, 1)]
theorem kdX12_goesOn_508 : dkO cX12_goesOn 508 ldX12_goesOn_508 = true := by decide +kernel
theorem dX12_goesOn_508 : decode cX12_goesOn 508 = .ok (.invokevirtual 244, 3) := dk_i kdX12_goesOn_508 0 rfl
theorem dX12_goesOn_511 : decode cX12_goesOn 511 = .ok (.aload_n 0, 1) := dk_i kdX12_goesOn_508 1 rfl
theorem dX12_goesOn_512 : decode cX12_goesOn 512 = .ok (.iconst 0, 1) := dk_i kdX12_goesOn_508 2 rfl
theorem dX12_goesOn_513 : decode cX12_goesOn 513 = .ok (.putfield 150, 3) := dk_i kdX12_goesOn_508 3 rfl
theorem dX12_goesOn_516 : decode cX12_goesOn 516 = .ok (.iconst 1, 1) := dk_i kdX12_goesOn_508 4 rfl
theorem dX12_goesOn_517 : decode cX12_goesOn 517 = .ok (.ireturn, 1) := dk_i kdX12_goesOn_508 5 rfl
theorem dX12_goesOn_518 : decode cX12_goesOn 518 = .ok (.aload_n 0, 1) := dk_i kdX12_goesOn_508 6 rfl
theorem dX12_goesOn_519 : decode cX12_goesOn 519 = .ok (.iload_n 2, 1) := dk_i kdX12_goesOn_508 7 rfl
theorem dX12_goesOn_520 : decode cX12_goesOn 520 = .ok (.iconst 5, 1) := dk_i kdX12_goesOn_508 8 rfl
theorem dX12_goesOn_521 : decode cX12_goesOn 521 = .ok (.if_icmp .ne 8, 3) := dk_i kdX12_goesOn_508 9 rfl
theorem dX12_goesOn_524 : decode cX12_goesOn 524 = .ok (.bipush 93, 2) := dk_i kdX12_goesOn_508 10 rfl
theorem dX12_goesOn_526 : decode cX12_goesOn 526 = .ok (.goto 5, 3) := dk_i kdX12_goesOn_508 11 rfl
theorem dX12_goesOn_529 : decode cX12_goesOn 529 = .ok (.bipush 41, 2) := dk_i kdX12_goesOn_508 12 rfl
theorem dX12_goesOn_531 : decode cX12_goesOn 531 = .ok (.invokevirtual 241, 3) := dk_i kdX12_goesOn_508 13 rfl
theorem dX12_goesOn_534 : decode cX12_goesOn 534 = .ok (.ifCond .ne 12, 3) := dk_i kdX12_goesOn_508 14 rfl
theorem dX12_goesOn_537 : decode cX12_goesOn 537 = .ok (.aload_n 0, 1) := dk_i kdX12_goesOn_508 15 rfl
def ldX12_goesOn_538 : List (Nat × ClassFile.Instr × Nat) := [(538, .iconst 1, 1), (539, .aload_n 0, 1), (540, .getfield 23, 3), (543, .invokevirtual 227, 3), (546, .aload_n 0, 1), (547, .getfield 36, 3), (550, .ifCond .le 5, 3), (553, .iconst 0, 1), (554, .ireturn, 1), (555, .aload_n 0, 1), (556, .iconst 1, 1), (557, .invokevirtual 331, 3), (560, .aload_n 0, 1), (561, .dup, 1), (562, .getfield 138, 3), (565, .iconst 1, 1)]
theorem kdX12_goesOn_538 : dkO cX12_goesOn 538 ldX12_goesOn_538 = true := by decide +kernel
theorem dX12_goesOn_538 : decode cX12_goesOn 538 = .ok (.iconst 1, 1) := dk_i kdX12_goesOn_538 0 rfl
theorem dX12_goesOn_539 : decode cX12_goesOn 539 = .ok (.aload_n 0, 1) := dk_i kdX12_goesOn_538 1 rfl
theorem dX12_goesOn_540 : decode cX12_goesOn 540 = .ok (.getfield 23, 3) := dk_i kdX12_goesOn_538 2 rfl
theorem dX12_goesOn_543 : decode cX12_goesOn 543 = .ok (.invokevirtual 227, 3) := dk_i kdX12_goesOn_538 3 rfl
theorem dX12_goesOn_546 : decode cX12_goesOn 546 = .ok (.aload_n 0, 1) := dk_i kdX12_goesOn_538 4 rfl
theorem dX12_goesOn_547 : decode cX12_goesOn 547 = .ok (.getfield 36, 3) := dk_i kdX12_goesOn_538 5 rfl
theorem dX12_goesOn_550 : decode cX12_goesOn 550 = .ok (.ifCond .le 5, 3) := dk_i kdX12_goesOn_538 6 rfl
theorem dX12_goesOn_553 : decode cX12_goesOn 553 = .ok (.iconst 0, 1) := dk_i kdX12_goesOn_538 7 rfl
theorem dX12_goesOn_554 : decode cX12_goesOn 554 = .ok (.ireturn, 1) := dk_i kdX12_goesOn_538 8 rfl
theorem dX12_goesOn_555 : decode cX12_goesOn 555 = .ok (.aload_n 0, 1) := dk_i kdX12_goesOn_538 9 rfl
theorem dX12_goesOn_556 : decode cX12_goesOn 556 = .ok (.iconst 1, 1) := dk_i kdX12_goesOn_538 10 rfl
theorem dX12_goesOn_557 : decode cX12_goesOn 557 = .ok (.invokevirtual 331, 3) := dk_i kdX12_goesOn_538 11 rfl
theorem dX12_goesOn_560 : decode cX12_goesOn 560 = .ok (.aload_n 0, 1) := dk_i kdX12_goesOn_538 12 rfl
theorem dX12_goesOn_561 : decode cX12_goesOn 561 = .ok (.dup, 1) := dk_i kdX12_goesOn_538 13 rfl
theorem dX12_goesOn_562 : decode cX12_goesOn 562 = .ok (.getfield 138, 3) := dk_i kdX12_goesOn_538 14 rfl
theorem dX12_goesOn_565 : decode cX12_goesOn 565 = .ok (.iconst 1, 1) := dk_i kdX12_goesOn_538 15 rfl
def ldX12_goesOn_566 : List (Nat × ClassFile.Instr × Nat) := [(566, .isub, 1), (567, .putfield 138, 3), (570, .aload_n 0, 1), (571, .dup, 1), (572, .getfield 141, 3), (575, .iconst 1, 1), (576, .isub, 1), (577, .putfield 141, 3), (580, .iload_n 2, 1), (581, .iconst 4, 1), (582, .if_icmp .ne 14, 3), (585, .aload_n 0, 1), (586, .aload_n 0, 1), (587, .getfield 132, 3), (590, .iload_n 1, 1), (591, .iaload, 1)]
theorem kdX12_goesOn_566 : dkO cX12_goesOn 566 ldX12_goesOn_566 = true := by decide +kernel
theorem dX12_goesOn_566 : decode cX12_goesOn 566 = .ok (.isub, 1) := dk_i kdX12_goesOn_566 0 rfl
theorem dX12_goesOn_567 : decode cX12_goesOn 567 = .ok (.putfield 138, 3) := dk_i kdX12_goesOn_566 1 rfl
theorem dX12_goesOn_570 : decode cX12_goesOn 570 = .ok (.aload_n 0, 1) := dk_i kdX12_goesOn_566 2 rfl
theorem dX12_goesOn_571 : decode cX12_goesOn 571 = .ok (.dup, 1) := dk_i kdX12_goesOn_566 3 rfl
theorem dX12_goesOn_572 : decode cX12_goesOn 572 = .ok (.getfield 141, 3) := dk_i kdX12_goesOn_566 4 rfl
theorem dX12_goesOn_575 : decode cX12_goesOn 575 = .ok (.iconst 1, 1) := dk_i kdX12_goesOn_566 5 rfl
theorem dX12_goesOn_576 : decode cX12_goesOn 576 = .ok (.isub, 1) := dk_i kdX12_goesOn_566 6 rfl
theorem dX12_goesOn_577 : decode cX12_goesOn 577 = .ok (.putfield 141, 3) := dk_i kdX12_goesOn_566 7 rfl
theorem dX12_goesOn_580 : decode cX12_goesOn 580 = .ok (.iload_n 2, 1) := dk_i kdX12_goesOn_566 8 rfl
theorem dX12_goesOn_581 : decode cX12_goesOn 581 = .ok (.iconst 4, 1) := dk_i kdX12_goesOn_566 9 rfl
theorem dX12_goesOn_582 : decode cX12_goesOn 582 = .ok (.if_icmp .ne 14, 3) := dk_i kdX12_goesOn_566 10 rfl
theorem dX12_goesOn_585 : decode cX12_goesOn 585 = .ok (.aload_n 0, 1) := dk_i kdX12_goesOn_566 11 rfl
theorem dX12_goesOn_586 : decode cX12_goesOn 586 = .ok (.aload_n 0, 1) := dk_i kdX12_goesOn_566 12 rfl
theorem dX12_goesOn_587 : decode cX12_goesOn 587 = .ok (.getfield 132, 3) := dk_i kdX12_goesOn_566 13 rfl
theorem dX12_goesOn_590 : decode cX12_goesOn 590 = .ok (.iload_n 1, 1) := dk_i kdX12_goesOn_566 14 rfl
theorem dX12_goesOn_591 : decode cX12_goesOn 591 = .ok (.iaload, 1) := dk_i kdX12_goesOn_566 15 rfl
def ldX12_goesOn_592 : List (Nat × ClassFile.Instr × Nat) := [(592, .iconst 0, 1), (593, .invokevirtual 312, 3), (596, .iload_n 2, 1), (597, .iconst 5, 1), (598, .if_icmp .ne 15, 3), (601, .aload_n 0, 1), (602, .getfield 125, 3), (605, .aload_n 0, 1), (606, .getfield 138, 3), (609, .iconst 1, 1), (610, .isub, 1), (611, .iconst 2, 1), (612, .iastore, 1), (613, .aload_n 0, 1), (614, .invokevirtual 244, 3), (617, .iconst 1, 1)]
theorem kdX12_goesOn_592 : dkO cX12_goesOn 592 ldX12_goesOn_592 = true := by decide +kernel
theorem dX12_goesOn_592 : decode cX12_goesOn 592 = .ok (.iconst 0, 1) := dk_i kdX12_goesOn_592 0 rfl
theorem dX12_goesOn_593 : decode cX12_goesOn 593 = .ok (.invokevirtual 312, 3) := dk_i kdX12_goesOn_592 1 rfl
theorem dX12_goesOn_596 : decode cX12_goesOn 596 = .ok (.iload_n 2, 1) := dk_i kdX12_goesOn_592 2 rfl
theorem dX12_goesOn_597 : decode cX12_goesOn 597 = .ok (.iconst 5, 1) := dk_i kdX12_goesOn_592 3 rfl
theorem dX12_goesOn_598 : decode cX12_goesOn 598 = .ok (.if_icmp .ne 15, 3) := dk_i kdX12_goesOn_592 4 rfl
theorem dX12_goesOn_601 : decode cX12_goesOn 601 = .ok (.aload_n 0, 1) := dk_i kdX12_goesOn_592 5 rfl
theorem dX12_goesOn_602 : decode cX12_goesOn 602 = .ok (.getfield 125, 3) := dk_i kdX12_goesOn_592 6 rfl
theorem dX12_goesOn_605 : decode cX12_goesOn 605 = .ok (.aload_n 0, 1) := dk_i kdX12_goesOn_592 7 rfl
theorem dX12_goesOn_606 : decode cX12_goesOn 606 = .ok (.getfield 138, 3) := dk_i kdX12_goesOn_592 8 rfl
theorem dX12_goesOn_609 : decode cX12_goesOn 609 = .ok (.iconst 1, 1) := dk_i kdX12_goesOn_592 9 rfl
theorem dX12_goesOn_610 : decode cX12_goesOn 610 = .ok (.isub, 1) := dk_i kdX12_goesOn_592 10 rfl
theorem dX12_goesOn_611 : decode cX12_goesOn 611 = .ok (.iconst 2, 1) := dk_i kdX12_goesOn_592 11 rfl
theorem dX12_goesOn_612 : decode cX12_goesOn 612 = .ok (.iastore, 1) := dk_i kdX12_goesOn_592 12 rfl
theorem dX12_goesOn_613 : decode cX12_goesOn 613 = .ok (.aload_n 0, 1) := dk_i kdX12_goesOn_592 13 rfl
theorem dX12_goesOn_614 : decode cX12_goesOn 614 = .ok (.invokevirtual 244, 3) := dk_i kdX12_goesOn_592 14 rfl
theorem dX12_goesOn_617 : decode cX12_goesOn 617 = .ok (.iconst 1, 1) := dk_i kdX12_goesOn_592 15 rfl
def ldX12_goesOn_618 : List (Nat × ClassFile.Instr × Nat) := [(618, .ireturn, 1)]
theorem kdX12_goesOn_618 : dkO cX12_goesOn 618 ldX12_goesOn_618 = true := by decide +kernel
theorem dX12_goesOn_618 : decode cX12_goesOn 618 = .ok (.ireturn, 1) := dk_i kdX12_goesOn_618 0 rfl
def ldX12_reads_0 : List (Nat × ClassFile.Instr × Nat) := [(0, .aload_n 0, 1), (1, .getfield 36, 3), (4, .ifCond .le 4, 3), (7, .return_, 1), (8, .aload_n 0, 1), (9, .iconst 0, 1), (10, .putfield 138, 3), (13, .aload_n 0, 1), (14, .iconst 0, 1), (15, .putfield 141, 3), (18, .aload_n 0, 1), (19, .iconst 0, 1), (20, .putfield 147, 3), (23, .aload_n 0, 1), (24, .iconst 0, 1), (25, .putfield 150, 3)]
theorem kdX12_reads_0 : dkO cX12_reads 0 ldX12_reads_0 = true := by decide +kernel
theorem dX12_reads_0 : decode cX12_reads 0 = .ok (.aload_n 0, 1) := dk_i kdX12_reads_0 0 rfl
theorem dX12_reads_1 : decode cX12_reads 1 = .ok (.getfield 36, 3) := dk_i kdX12_reads_0 1 rfl
theorem dX12_reads_4 : decode cX12_reads 4 = .ok (.ifCond .le 4, 3) := dk_i kdX12_reads_0 2 rfl
theorem dX12_reads_7 : decode cX12_reads 7 = .ok (.return_, 1) := dk_i kdX12_reads_0 3 rfl
theorem dX12_reads_8 : decode cX12_reads 8 = .ok (.aload_n 0, 1) := dk_i kdX12_reads_0 4 rfl
theorem dX12_reads_9 : decode cX12_reads 9 = .ok (.iconst 0, 1) := dk_i kdX12_reads_0 5 rfl
theorem dX12_reads_10 : decode cX12_reads 10 = .ok (.putfield 138, 3) := dk_i kdX12_reads_0 6 rfl
theorem dX12_reads_13 : decode cX12_reads 13 = .ok (.aload_n 0, 1) := dk_i kdX12_reads_0 7 rfl
theorem dX12_reads_14 : decode cX12_reads 14 = .ok (.iconst 0, 1) := dk_i kdX12_reads_0 8 rfl
theorem dX12_reads_15 : decode cX12_reads 15 = .ok (.putfield 141, 3) := dk_i kdX12_reads_0 9 rfl
theorem dX12_reads_18 : decode cX12_reads 18 = .ok (.aload_n 0, 1) := dk_i kdX12_reads_0 10 rfl
theorem dX12_reads_19 : decode cX12_reads 19 = .ok (.iconst 0, 1) := dk_i kdX12_reads_0 11 rfl
theorem dX12_reads_20 : decode cX12_reads 20 = .ok (.putfield 147, 3) := dk_i kdX12_reads_0 12 rfl
theorem dX12_reads_23 : decode cX12_reads 23 = .ok (.aload_n 0, 1) := dk_i kdX12_reads_0 13 rfl
theorem dX12_reads_24 : decode cX12_reads 24 = .ok (.iconst 0, 1) := dk_i kdX12_reads_0 14 rfl
theorem dX12_reads_25 : decode cX12_reads 25 = .ok (.putfield 150, 3) := dk_i kdX12_reads_0 15 rfl
def ldX12_reads_28 : List (Nat × ClassFile.Instr × Nat) := [(28, .aload_n 0, 1), (29, .iload_n 1, 1), (30, .ifCond .eq 7, 3), (33, .iconst 1, 1), (34, .goto 4, 3), (37, .iconst 0, 1), (38, .invokevirtual 315, 3), (41, .iconst 1, 1), (42, .istore_n 2, 1), (43, .iload_n 2, 1), (44, .ifCond .eq 46, 3), (47, .aload_n 0, 1), (48, .getfield 150, 3), (51, .ifCond .ne 14, 3), (54, .aload_n 0, 1), (55, .aload_n 0, 1)]
theorem kdX12_reads_28 : dkO cX12_reads 28 ldX12_reads_28 = true := by decide +kernel
theorem dX12_reads_28 : decode cX12_reads 28 = .ok (.aload_n 0, 1) := dk_i kdX12_reads_28 0 rfl
theorem dX12_reads_29 : decode cX12_reads 29 = .ok (.iload_n 1, 1) := dk_i kdX12_reads_28 1 rfl
theorem dX12_reads_30 : decode cX12_reads 30 = .ok (.ifCond .eq 7, 3) := dk_i kdX12_reads_28 2 rfl
theorem dX12_reads_33 : decode cX12_reads 33 = .ok (.iconst 1, 1) := dk_i kdX12_reads_28 3 rfl
theorem dX12_reads_34 : decode cX12_reads 34 = .ok (.goto 4, 3) := dk_i kdX12_reads_28 4 rfl
theorem dX12_reads_37 : decode cX12_reads 37 = .ok (.iconst 0, 1) := dk_i kdX12_reads_28 5 rfl
theorem dX12_reads_38 : decode cX12_reads 38 = .ok (.invokevirtual 315, 3) := dk_i kdX12_reads_28 6 rfl
theorem dX12_reads_41 : decode cX12_reads 41 = .ok (.iconst 1, 1) := dk_i kdX12_reads_28 7 rfl
theorem dX12_reads_42 : decode cX12_reads 42 = .ok (.istore_n 2, 1) := dk_i kdX12_reads_28 8 rfl
theorem dX12_reads_43 : decode cX12_reads 43 = .ok (.iload_n 2, 1) := dk_i kdX12_reads_28 9 rfl
theorem dX12_reads_44 : decode cX12_reads 44 = .ok (.ifCond .eq 46, 3) := dk_i kdX12_reads_28 10 rfl
theorem dX12_reads_47 : decode cX12_reads 47 = .ok (.aload_n 0, 1) := dk_i kdX12_reads_28 11 rfl
theorem dX12_reads_48 : decode cX12_reads 48 = .ok (.getfield 150, 3) := dk_i kdX12_reads_28 12 rfl
theorem dX12_reads_51 : decode cX12_reads 51 = .ok (.ifCond .ne 14, 3) := dk_i kdX12_reads_28 13 rfl
theorem dX12_reads_54 : decode cX12_reads 54 = .ok (.aload_n 0, 1) := dk_i kdX12_reads_28 14 rfl
theorem dX12_reads_55 : decode cX12_reads 55 = .ok (.aload_n 0, 1) := dk_i kdX12_reads_28 15 rfl
def ldX12_reads_56 : List (Nat × ClassFile.Instr × Nat) := [(56, .invokevirtual 334, 3), (59, .putfield 150, 3), (62, .goto 8, 3), (65, .aload_n 0, 1), (66, .invokevirtual 337, 3), (69, .istore_n 2, 1), (70, .iload_n 2, 1), (71, .ifCond .eq 14, 3), (74, .aload_n 0, 1), (75, .getfield 36, 3), (78, .ifCond .ne 7, 3), (81, .iconst 1, 1), (82, .goto 4, 3), (85, .iconst 0, 1), (86, .istore_n 2, 1), (87, .goto (-44), 3)]
theorem kdX12_reads_56 : dkO cX12_reads 56 ldX12_reads_56 = true := by decide +kernel
theorem dX12_reads_56 : decode cX12_reads 56 = .ok (.invokevirtual 334, 3) := dk_i kdX12_reads_56 0 rfl
theorem dX12_reads_59 : decode cX12_reads 59 = .ok (.putfield 150, 3) := dk_i kdX12_reads_56 1 rfl
theorem dX12_reads_62 : decode cX12_reads 62 = .ok (.goto 8, 3) := dk_i kdX12_reads_56 2 rfl
theorem dX12_reads_65 : decode cX12_reads 65 = .ok (.aload_n 0, 1) := dk_i kdX12_reads_56 3 rfl
theorem dX12_reads_66 : decode cX12_reads 66 = .ok (.invokevirtual 337, 3) := dk_i kdX12_reads_56 4 rfl
theorem dX12_reads_69 : decode cX12_reads 69 = .ok (.istore_n 2, 1) := dk_i kdX12_reads_56 5 rfl
theorem dX12_reads_70 : decode cX12_reads 70 = .ok (.iload_n 2, 1) := dk_i kdX12_reads_56 6 rfl
theorem dX12_reads_71 : decode cX12_reads 71 = .ok (.ifCond .eq 14, 3) := dk_i kdX12_reads_56 7 rfl
theorem dX12_reads_74 : decode cX12_reads 74 = .ok (.aload_n 0, 1) := dk_i kdX12_reads_56 8 rfl
theorem dX12_reads_75 : decode cX12_reads 75 = .ok (.getfield 36, 3) := dk_i kdX12_reads_56 9 rfl
theorem dX12_reads_78 : decode cX12_reads 78 = .ok (.ifCond .ne 7, 3) := dk_i kdX12_reads_56 10 rfl
theorem dX12_reads_81 : decode cX12_reads 81 = .ok (.iconst 1, 1) := dk_i kdX12_reads_56 11 rfl
theorem dX12_reads_82 : decode cX12_reads 82 = .ok (.goto 4, 3) := dk_i kdX12_reads_56 12 rfl
theorem dX12_reads_85 : decode cX12_reads 85 = .ok (.iconst 0, 1) := dk_i kdX12_reads_56 13 rfl
theorem dX12_reads_86 : decode cX12_reads 86 = .ok (.istore_n 2, 1) := dk_i kdX12_reads_56 14 rfl
theorem dX12_reads_87 : decode cX12_reads 87 = .ok (.goto (-44), 3) := dk_i kdX12_reads_56 15 rfl
def ldX12_reads_90 : List (Nat × ClassFile.Instr × Nat) := [(90, .return_, 1)]
theorem kdX12_reads_90 : dkO cX12_reads 90 ldX12_reads_90 = true := by decide +kernel
theorem dX12_reads_90 : decode cX12_reads 90 = .ok (.return_, 1) := dk_i kdX12_reads_90 0 rfl
def ldX12_counts_0 : List (Nat × ClassFile.Instr × Nat) := [(0, .aload_n 0, 1), (1, .getfield 36, 3), (4, .ifCond .ne 17, 3), (7, .iload_n 1, 1), (8, .ifCond .eq 13, 3), (11, .aload_n 0, 1), (12, .bipush 6, 2), (14, .aload_n 0, 1), (15, .getfield 23, 3), (18, .invokevirtual 227, 3), (21, .aload_n 0, 1), (22, .getfield 36, 3), (25, .ifCond .ne 7, 3), (28, .aload_n 0, 1), (29, .invokevirtual 244, 3), (32, .aload_n 0, 1)]
theorem kdX12_counts_0 : dkO cX12_counts 0 ldX12_counts_0 = true := by decide +kernel
theorem dX12_counts_0 : decode cX12_counts 0 = .ok (.aload_n 0, 1) := dk_i kdX12_counts_0 0 rfl
theorem dX12_counts_1 : decode cX12_counts 1 = .ok (.getfield 36, 3) := dk_i kdX12_counts_0 1 rfl
theorem dX12_counts_4 : decode cX12_counts 4 = .ok (.ifCond .ne 17, 3) := dk_i kdX12_counts_0 2 rfl
theorem dX12_counts_7 : decode cX12_counts 7 = .ok (.iload_n 1, 1) := dk_i kdX12_counts_0 3 rfl
theorem dX12_counts_8 : decode cX12_counts 8 = .ok (.ifCond .eq 13, 3) := dk_i kdX12_counts_0 4 rfl
theorem dX12_counts_11 : decode cX12_counts 11 = .ok (.aload_n 0, 1) := dk_i kdX12_counts_0 5 rfl
theorem dX12_counts_12 : decode cX12_counts 12 = .ok (.bipush 6, 2) := dk_i kdX12_counts_0 6 rfl
theorem dX12_counts_14 : decode cX12_counts 14 = .ok (.aload_n 0, 1) := dk_i kdX12_counts_0 7 rfl
theorem dX12_counts_15 : decode cX12_counts 15 = .ok (.getfield 23, 3) := dk_i kdX12_counts_0 8 rfl
theorem dX12_counts_18 : decode cX12_counts 18 = .ok (.invokevirtual 227, 3) := dk_i kdX12_counts_0 9 rfl
theorem dX12_counts_21 : decode cX12_counts 21 = .ok (.aload_n 0, 1) := dk_i kdX12_counts_0 10 rfl
theorem dX12_counts_22 : decode cX12_counts 22 = .ok (.getfield 36, 3) := dk_i kdX12_counts_0 11 rfl
theorem dX12_counts_25 : decode cX12_counts 25 = .ok (.ifCond .ne 7, 3) := dk_i kdX12_counts_0 12 rfl
theorem dX12_counts_28 : decode cX12_counts 28 = .ok (.aload_n 0, 1) := dk_i kdX12_counts_0 13 rfl
theorem dX12_counts_29 : decode cX12_counts 29 = .ok (.invokevirtual 244, 3) := dk_i kdX12_counts_0 14 rfl
theorem dX12_counts_32 : decode cX12_counts 32 = .ok (.aload_n 0, 1) := dk_i kdX12_counts_0 15 rfl
def ldX12_counts_33 : List (Nat × ClassFile.Instr × Nat) := [(33, .getfield 36, 3), (36, .ifCond .ne 7, 3), (39, .iconst 1, 1), (40, .goto 4, 3), (43, .iconst 0, 1), (44, .ireturn, 1)]
theorem kdX12_counts_33 : dkO cX12_counts 33 ldX12_counts_33 = true := by decide +kernel
theorem dX12_counts_33 : decode cX12_counts 33 = .ok (.getfield 36, 3) := dk_i kdX12_counts_33 0 rfl
theorem dX12_counts_36 : decode cX12_counts 36 = .ok (.ifCond .ne 7, 3) := dk_i kdX12_counts_33 1 rfl
theorem dX12_counts_39 : decode cX12_counts 39 = .ok (.iconst 1, 1) := dk_i kdX12_counts_33 2 rfl
theorem dX12_counts_40 : decode cX12_counts 40 = .ok (.goto 4, 3) := dk_i kdX12_counts_33 3 rfl
theorem dX12_counts_43 : decode cX12_counts 43 = .ok (.iconst 0, 1) := dk_i kdX12_counts_33 4 rfl
theorem dX12_counts_44 : decode cX12_counts 44 = .ok (.ireturn, 1) := dk_i kdX12_counts_33 5 rfl
def ldX12_must__0 : List (Nat × ClassFile.Instr × Nat) := [(0, .aload_n 0, 1), (1, .invokevirtual 238, 3), (4, .aload_n 0, 1), (5, .getfield 36, 3), (8, .ifCond .le 4, 3), (11, .return_, 1), (12, .aload_n 0, 1), (13, .lload_n 1, 1), (14, .invokevirtual 321, 3), (17, .ifCond .ne 12, 3), (20, .aload_n 0, 1), (21, .iconst 1, 1), (22, .aload_n 0, 1), (23, .getfield 23, 3), (26, .invokevirtual 227, 3), (29, .aload_n 0, 1)]
theorem kdX12_must__0 : dkO cX12_must_ 0 ldX12_must__0 = true := by decide +kernel
theorem dX12_must__0 : decode cX12_must_ 0 = .ok (.aload_n 0, 1) := dk_i kdX12_must__0 0 rfl
theorem dX12_must__1 : decode cX12_must_ 1 = .ok (.invokevirtual 238, 3) := dk_i kdX12_must__0 1 rfl
theorem dX12_must__4 : decode cX12_must_ 4 = .ok (.aload_n 0, 1) := dk_i kdX12_must__0 2 rfl
theorem dX12_must__5 : decode cX12_must_ 5 = .ok (.getfield 36, 3) := dk_i kdX12_must__0 3 rfl
theorem dX12_must__8 : decode cX12_must_ 8 = .ok (.ifCond .le 4, 3) := dk_i kdX12_must__0 4 rfl
theorem dX12_must__11 : decode cX12_must_ 11 = .ok (.return_, 1) := dk_i kdX12_must__0 5 rfl
theorem dX12_must__12 : decode cX12_must_ 12 = .ok (.aload_n 0, 1) := dk_i kdX12_must__0 6 rfl
theorem dX12_must__13 : decode cX12_must_ 13 = .ok (.lload_n 1, 1) := dk_i kdX12_must__0 7 rfl
theorem dX12_must__14 : decode cX12_must_ 14 = .ok (.invokevirtual 321, 3) := dk_i kdX12_must__0 8 rfl
theorem dX12_must__17 : decode cX12_must_ 17 = .ok (.ifCond .ne 12, 3) := dk_i kdX12_must__0 9 rfl
theorem dX12_must__20 : decode cX12_must_ 20 = .ok (.aload_n 0, 1) := dk_i kdX12_must__0 10 rfl
theorem dX12_must__21 : decode cX12_must_ 21 = .ok (.iconst 1, 1) := dk_i kdX12_must__0 11 rfl
theorem dX12_must__22 : decode cX12_must_ 22 = .ok (.aload_n 0, 1) := dk_i kdX12_must__0 12 rfl
theorem dX12_must__23 : decode cX12_must_ 23 = .ok (.getfield 23, 3) := dk_i kdX12_must__0 13 rfl
theorem dX12_must__26 : decode cX12_must_ 26 = .ok (.invokevirtual 227, 3) := dk_i kdX12_must__0 14 rfl
theorem dX12_must__29 : decode cX12_must_ 29 = .ok (.aload_n 0, 1) := dk_i kdX12_must__0 15 rfl
def ldX12_must__30 : List (Nat × ClassFile.Instr × Nat) := [(30, .getfield 36, 3), (33, .ifCond .ne 7, 3), (36, .aload_n 0, 1), (37, .invokevirtual 244, 3), (40, .return_, 1)]
theorem kdX12_must__30 : dkO cX12_must_ 30 ldX12_must__30 = true := by decide +kernel
theorem dX12_must__30 : decode cX12_must_ 30 = .ok (.getfield 36, 3) := dk_i kdX12_must__30 0 rfl
theorem dX12_must__33 : decode cX12_must_ 33 = .ok (.ifCond .ne 7, 3) := dk_i kdX12_must__30 1 rfl
theorem dX12_must__36 : decode cX12_must_ 36 = .ok (.aload_n 0, 1) := dk_i kdX12_must__30 2 rfl
theorem dX12_must__37 : decode cX12_must_ 37 = .ok (.invokevirtual 244, 3) := dk_i kdX12_must__30 3 rfl
theorem dX12_must__40 : decode cX12_must_ 40 = .ok (.return_, 1) := dk_i kdX12_must__30 4 rfl
def ldX12_has2_0 : List (Nat × ClassFile.Instr × Nat) := [(0, .iload_n 0, 1), (1, .iload_n 1, 1), (2, .ishr, 1), (3, .iconst 1, 1), (4, .iand, 1), (5, .iconst 1, 1), (6, .if_icmp .ne 7, 3), (9, .iconst 1, 1), (10, .goto 4, 3), (13, .iconst 0, 1), (14, .ireturn, 1)]
theorem kdX12_has2_0 : dkO cX12_has2 0 ldX12_has2_0 = true := by decide +kernel
theorem dX12_has2_0 : decode cX12_has2 0 = .ok (.iload_n 0, 1) := dk_i kdX12_has2_0 0 rfl
theorem dX12_has2_1 : decode cX12_has2 1 = .ok (.iload_n 1, 1) := dk_i kdX12_has2_0 1 rfl
theorem dX12_has2_2 : decode cX12_has2 2 = .ok (.ishr, 1) := dk_i kdX12_has2_0 2 rfl
theorem dX12_has2_3 : decode cX12_has2 3 = .ok (.iconst 1, 1) := dk_i kdX12_has2_0 3 rfl
theorem dX12_has2_4 : decode cX12_has2 4 = .ok (.iand, 1) := dk_i kdX12_has2_0 4 rfl
theorem dX12_has2_5 : decode cX12_has2 5 = .ok (.iconst 1, 1) := dk_i kdX12_has2_0 5 rfl
theorem dX12_has2_6 : decode cX12_has2 6 = .ok (.if_icmp .ne 7, 3) := dk_i kdX12_has2_0 6 rfl
theorem dX12_has2_9 : decode cX12_has2 9 = .ok (.iconst 1, 1) := dk_i kdX12_has2_0 7 rfl
theorem dX12_has2_10 : decode cX12_has2 10 = .ok (.goto 4, 3) := dk_i kdX12_has2_0 8 rfl
theorem dX12_has2_13 : decode cX12_has2 13 = .ok (.iconst 0, 1) := dk_i kdX12_has2_0 9 rfl
theorem dX12_has2_14 : decode cX12_has2 14 = .ok (.ireturn, 1) := dk_i kdX12_has2_0 10 rfl
def ldX12_fresh_0 : List (Nat × ClassFile.Instr × Nat) := [(0, .aload_n 0, 1), (1, .invokevirtual 238, 3), (4, .aload_n 0, 1), (5, .getfield 36, 3), (8, .ifCond .le 5, 3), (11, .lconst 0, 1), (12, .lreturn, 1), (13, .aload_n 0, 1), (14, .getfield 20, 3), (17, .iconst 1, 1), (18, .if_icmp .ne 14, 3), (21, .aload_n 0, 1), (22, .aload_n 0, 1), (23, .getfield 32, 3), (26, .invokevirtual 340, 3), (29, .ifCond .eq 12, 3)]
theorem kdX12_fresh_0 : dkO cX12_fresh 0 ldX12_fresh_0 = true := by decide +kernel
theorem dX12_fresh_0 : decode cX12_fresh 0 = .ok (.aload_n 0, 1) := dk_i kdX12_fresh_0 0 rfl
theorem dX12_fresh_1 : decode cX12_fresh 1 = .ok (.invokevirtual 238, 3) := dk_i kdX12_fresh_0 1 rfl
theorem dX12_fresh_4 : decode cX12_fresh 4 = .ok (.aload_n 0, 1) := dk_i kdX12_fresh_0 2 rfl
theorem dX12_fresh_5 : decode cX12_fresh 5 = .ok (.getfield 36, 3) := dk_i kdX12_fresh_0 3 rfl
theorem dX12_fresh_8 : decode cX12_fresh 8 = .ok (.ifCond .le 5, 3) := dk_i kdX12_fresh_0 4 rfl
theorem dX12_fresh_11 : decode cX12_fresh 11 = .ok (.lconst 0, 1) := dk_i kdX12_fresh_0 5 rfl
theorem dX12_fresh_12 : decode cX12_fresh 12 = .ok (.lreturn, 1) := dk_i kdX12_fresh_0 6 rfl
theorem dX12_fresh_13 : decode cX12_fresh 13 = .ok (.aload_n 0, 1) := dk_i kdX12_fresh_0 7 rfl
theorem dX12_fresh_14 : decode cX12_fresh 14 = .ok (.getfield 20, 3) := dk_i kdX12_fresh_0 8 rfl
theorem dX12_fresh_17 : decode cX12_fresh 17 = .ok (.iconst 1, 1) := dk_i kdX12_fresh_0 9 rfl
theorem dX12_fresh_18 : decode cX12_fresh 18 = .ok (.if_icmp .ne 14, 3) := dk_i kdX12_fresh_0 10 rfl
theorem dX12_fresh_21 : decode cX12_fresh 21 = .ok (.aload_n 0, 1) := dk_i kdX12_fresh_0 11 rfl
theorem dX12_fresh_22 : decode cX12_fresh 22 = .ok (.aload_n 0, 1) := dk_i kdX12_fresh_0 12 rfl
theorem dX12_fresh_23 : decode cX12_fresh 23 = .ok (.getfield 32, 3) := dk_i kdX12_fresh_0 13 rfl
theorem dX12_fresh_26 : decode cX12_fresh 26 = .ok (.invokevirtual 340, 3) := dk_i kdX12_fresh_0 14 rfl
theorem dX12_fresh_29 : decode cX12_fresh 29 = .ok (.ifCond .eq 12, 3) := dk_i kdX12_fresh_0 15 rfl
def ldX12_fresh_32 : List (Nat × ClassFile.Instr × Nat) := [(32, .aload_n 0, 1), (33, .iconst 1, 1), (34, .aload_n 0, 1), (35, .getfield 23, 3), (38, .invokevirtual 227, 3), (41, .iconst 0, 1), (42, .istore_n 1, 1), (43, .iload_n 1, 1), (44, .iconst 2, 1), (45, .if_icmp .gt 38, 3), (48, .aload_n 0, 1), (49, .getfield 36, 3), (52, .ifCond .ne 31, 3), (55, .aload_n 0, 1), (56, .iload_n 1, 1), (57, .aload_n 0, 1)]
theorem kdX12_fresh_32 : dkO cX12_fresh 32 ldX12_fresh_32 = true := by decide +kernel
theorem dX12_fresh_32 : decode cX12_fresh 32 = .ok (.aload_n 0, 1) := dk_i kdX12_fresh_32 0 rfl
theorem dX12_fresh_33 : decode cX12_fresh 33 = .ok (.iconst 1, 1) := dk_i kdX12_fresh_32 1 rfl
theorem dX12_fresh_34 : decode cX12_fresh 34 = .ok (.aload_n 0, 1) := dk_i kdX12_fresh_32 2 rfl
theorem dX12_fresh_35 : decode cX12_fresh 35 = .ok (.getfield 23, 3) := dk_i kdX12_fresh_32 3 rfl
theorem dX12_fresh_38 : decode cX12_fresh 38 = .ok (.invokevirtual 227, 3) := dk_i kdX12_fresh_32 4 rfl
theorem dX12_fresh_41 : decode cX12_fresh 41 = .ok (.iconst 0, 1) := dk_i kdX12_fresh_32 5 rfl
theorem dX12_fresh_42 : decode cX12_fresh 42 = .ok (.istore_n 1, 1) := dk_i kdX12_fresh_32 6 rfl
theorem dX12_fresh_43 : decode cX12_fresh 43 = .ok (.iload_n 1, 1) := dk_i kdX12_fresh_32 7 rfl
theorem dX12_fresh_44 : decode cX12_fresh 44 = .ok (.iconst 2, 1) := dk_i kdX12_fresh_32 8 rfl
theorem dX12_fresh_45 : decode cX12_fresh 45 = .ok (.if_icmp .gt 38, 3) := dk_i kdX12_fresh_32 9 rfl
theorem dX12_fresh_48 : decode cX12_fresh 48 = .ok (.aload_n 0, 1) := dk_i kdX12_fresh_32 10 rfl
theorem dX12_fresh_49 : decode cX12_fresh 49 = .ok (.getfield 36, 3) := dk_i kdX12_fresh_32 11 rfl
theorem dX12_fresh_52 : decode cX12_fresh 52 = .ok (.ifCond .ne 31, 3) := dk_i kdX12_fresh_32 12 rfl
theorem dX12_fresh_55 : decode cX12_fresh 55 = .ok (.aload_n 0, 1) := dk_i kdX12_fresh_32 13 rfl
theorem dX12_fresh_56 : decode cX12_fresh 56 = .ok (.iload_n 1, 1) := dk_i kdX12_fresh_32 14 rfl
theorem dX12_fresh_57 : decode cX12_fresh 57 = .ok (.aload_n 0, 1) := dk_i kdX12_fresh_32 15 rfl
def ldX12_fresh_58 : List (Nat × ClassFile.Instr × Nat) := [(58, .getfield 32, 3), (61, .invokevirtual 343, 3), (64, .iconst (-1), 1), (65, .if_icmp .eq 12, 3), (68, .aload_n 0, 1), (69, .iconst 2, 1), (70, .aload_n 0, 1), (71, .getfield 23, 3), (74, .invokevirtual 227, 3), (77, .iinc 1 1, 3), (80, .goto (-37), 3), (83, .aload_n 0, 1), (84, .getfield 32, 3), (87, .lstore_n 1, 1), (88, .aload_n 0, 1), (89, .getfield 36, 3)]
theorem kdX12_fresh_58 : dkO cX12_fresh 58 ldX12_fresh_58 = true := by decide +kernel
theorem dX12_fresh_58 : decode cX12_fresh 58 = .ok (.getfield 32, 3) := dk_i kdX12_fresh_58 0 rfl
theorem dX12_fresh_61 : decode cX12_fresh 61 = .ok (.invokevirtual 343, 3) := dk_i kdX12_fresh_58 1 rfl
theorem dX12_fresh_64 : decode cX12_fresh 64 = .ok (.iconst (-1), 1) := dk_i kdX12_fresh_58 2 rfl
theorem dX12_fresh_65 : decode cX12_fresh 65 = .ok (.if_icmp .eq 12, 3) := dk_i kdX12_fresh_58 3 rfl
theorem dX12_fresh_68 : decode cX12_fresh 68 = .ok (.aload_n 0, 1) := dk_i kdX12_fresh_58 4 rfl
theorem dX12_fresh_69 : decode cX12_fresh 69 = .ok (.iconst 2, 1) := dk_i kdX12_fresh_58 5 rfl
theorem dX12_fresh_70 : decode cX12_fresh 70 = .ok (.aload_n 0, 1) := dk_i kdX12_fresh_58 6 rfl
theorem dX12_fresh_71 : decode cX12_fresh 71 = .ok (.getfield 23, 3) := dk_i kdX12_fresh_58 7 rfl
theorem dX12_fresh_74 : decode cX12_fresh 74 = .ok (.invokevirtual 227, 3) := dk_i kdX12_fresh_58 8 rfl
theorem dX12_fresh_77 : decode cX12_fresh 77 = .ok (.iinc 1 1, 3) := dk_i kdX12_fresh_58 9 rfl
theorem dX12_fresh_80 : decode cX12_fresh 80 = .ok (.goto (-37), 3) := dk_i kdX12_fresh_58 10 rfl
theorem dX12_fresh_83 : decode cX12_fresh 83 = .ok (.aload_n 0, 1) := dk_i kdX12_fresh_58 11 rfl
theorem dX12_fresh_84 : decode cX12_fresh 84 = .ok (.getfield 32, 3) := dk_i kdX12_fresh_58 12 rfl
theorem dX12_fresh_87 : decode cX12_fresh 87 = .ok (.lstore_n 1, 1) := dk_i kdX12_fresh_58 13 rfl
theorem dX12_fresh_88 : decode cX12_fresh 88 = .ok (.aload_n 0, 1) := dk_i kdX12_fresh_58 14 rfl
theorem dX12_fresh_89 : decode cX12_fresh 89 = .ok (.getfield 36, 3) := dk_i kdX12_fresh_58 15 rfl
def ldX12_fresh_92 : List (Nat × ClassFile.Instr × Nat) := [(92, .ifCond .ne 7, 3), (95, .aload_n 0, 1), (96, .invokevirtual 244, 3), (99, .lload_n 1, 1), (100, .lreturn, 1)]
theorem kdX12_fresh_92 : dkO cX12_fresh 92 ldX12_fresh_92 = true := by decide +kernel
theorem dX12_fresh_92 : decode cX12_fresh 92 = .ok (.ifCond .ne 7, 3) := dk_i kdX12_fresh_92 0 rfl
theorem dX12_fresh_95 : decode cX12_fresh 95 = .ok (.aload_n 0, 1) := dk_i kdX12_fresh_92 1 rfl
theorem dX12_fresh_96 : decode cX12_fresh 96 = .ok (.invokevirtual 244, 3) := dk_i kdX12_fresh_92 2 rfl
theorem dX12_fresh_99 : decode cX12_fresh 99 = .ok (.lload_n 1, 1) := dk_i kdX12_fresh_92 3 rfl
theorem dX12_fresh_100 : decode cX12_fresh 100 = .ok (.lreturn, 1) := dk_i kdX12_fresh_92 4 rfl
def ldX12_knownBut_0 : List (Nat × ClassFile.Instr × Nat) := [(0, .aload_n 0, 1), (1, .invokevirtual 238, 3), (4, .aload_n 0, 1), (5, .getfield 36, 3), (8, .ifCond .le 5, 3), (11, .iconst 0, 1), (12, .ireturn, 1), (13, .aload_n 0, 1), (14, .getfield 20, 3), (17, .iconst 1, 1), (18, .if_icmp .ne 14, 3), (21, .aload_n 0, 1), (22, .aload_n 0, 1), (23, .getfield 32, 3), (26, .invokevirtual 340, 3), (29, .ifCond .eq 12, 3)]
theorem kdX12_knownBut_0 : dkO cX12_knownBut 0 ldX12_knownBut_0 = true := by decide +kernel
theorem dX12_knownBut_0 : decode cX12_knownBut 0 = .ok (.aload_n 0, 1) := dk_i kdX12_knownBut_0 0 rfl
theorem dX12_knownBut_1 : decode cX12_knownBut 1 = .ok (.invokevirtual 238, 3) := dk_i kdX12_knownBut_0 1 rfl
theorem dX12_knownBut_4 : decode cX12_knownBut 4 = .ok (.aload_n 0, 1) := dk_i kdX12_knownBut_0 2 rfl
theorem dX12_knownBut_5 : decode cX12_knownBut 5 = .ok (.getfield 36, 3) := dk_i kdX12_knownBut_0 3 rfl
theorem dX12_knownBut_8 : decode cX12_knownBut 8 = .ok (.ifCond .le 5, 3) := dk_i kdX12_knownBut_0 4 rfl
theorem dX12_knownBut_11 : decode cX12_knownBut 11 = .ok (.iconst 0, 1) := dk_i kdX12_knownBut_0 5 rfl
theorem dX12_knownBut_12 : decode cX12_knownBut 12 = .ok (.ireturn, 1) := dk_i kdX12_knownBut_0 6 rfl
theorem dX12_knownBut_13 : decode cX12_knownBut 13 = .ok (.aload_n 0, 1) := dk_i kdX12_knownBut_0 7 rfl
theorem dX12_knownBut_14 : decode cX12_knownBut 14 = .ok (.getfield 20, 3) := dk_i kdX12_knownBut_0 8 rfl
theorem dX12_knownBut_17 : decode cX12_knownBut 17 = .ok (.iconst 1, 1) := dk_i kdX12_knownBut_0 9 rfl
theorem dX12_knownBut_18 : decode cX12_knownBut 18 = .ok (.if_icmp .ne 14, 3) := dk_i kdX12_knownBut_0 10 rfl
theorem dX12_knownBut_21 : decode cX12_knownBut 21 = .ok (.aload_n 0, 1) := dk_i kdX12_knownBut_0 11 rfl
theorem dX12_knownBut_22 : decode cX12_knownBut 22 = .ok (.aload_n 0, 1) := dk_i kdX12_knownBut_0 12 rfl
theorem dX12_knownBut_23 : decode cX12_knownBut 23 = .ok (.getfield 32, 3) := dk_i kdX12_knownBut_0 13 rfl
theorem dX12_knownBut_26 : decode cX12_knownBut 26 = .ok (.invokevirtual 340, 3) := dk_i kdX12_knownBut_0 14 rfl
theorem dX12_knownBut_29 : decode cX12_knownBut 29 = .ok (.ifCond .eq 12, 3) := dk_i kdX12_knownBut_0 15 rfl
def ldX12_knownBut_32 : List (Nat × ClassFile.Instr × Nat) := [(32, .aload_n 0, 1), (33, .iconst 1, 1), (34, .aload_n 0, 1), (35, .getfield 23, 3), (38, .invokevirtual 227, 3), (41, .aload_n 0, 1), (42, .getfield 36, 3), (45, .ifCond .le 7, 3), (48, .iconst 0, 1), (49, .goto 12, 3), (52, .aload_n 0, 1), (53, .iload_n 1, 1), (54, .aload_n 0, 1), (55, .getfield 32, 3), (58, .invokevirtual 343, 3), (61, .istore_n 3, 1)]
theorem kdX12_knownBut_32 : dkO cX12_knownBut 32 ldX12_knownBut_32 = true := by decide +kernel
theorem dX12_knownBut_32 : decode cX12_knownBut 32 = .ok (.aload_n 0, 1) := dk_i kdX12_knownBut_32 0 rfl
theorem dX12_knownBut_33 : decode cX12_knownBut 33 = .ok (.iconst 1, 1) := dk_i kdX12_knownBut_32 1 rfl
theorem dX12_knownBut_34 : decode cX12_knownBut 34 = .ok (.aload_n 0, 1) := dk_i kdX12_knownBut_32 2 rfl
theorem dX12_knownBut_35 : decode cX12_knownBut 35 = .ok (.getfield 23, 3) := dk_i kdX12_knownBut_32 3 rfl
theorem dX12_knownBut_38 : decode cX12_knownBut 38 = .ok (.invokevirtual 227, 3) := dk_i kdX12_knownBut_32 4 rfl
theorem dX12_knownBut_41 : decode cX12_knownBut 41 = .ok (.aload_n 0, 1) := dk_i kdX12_knownBut_32 5 rfl
theorem dX12_knownBut_42 : decode cX12_knownBut 42 = .ok (.getfield 36, 3) := dk_i kdX12_knownBut_32 6 rfl
theorem dX12_knownBut_45 : decode cX12_knownBut 45 = .ok (.ifCond .le 7, 3) := dk_i kdX12_knownBut_32 7 rfl
theorem dX12_knownBut_48 : decode cX12_knownBut 48 = .ok (.iconst 0, 1) := dk_i kdX12_knownBut_32 8 rfl
theorem dX12_knownBut_49 : decode cX12_knownBut 49 = .ok (.goto 12, 3) := dk_i kdX12_knownBut_32 9 rfl
theorem dX12_knownBut_52 : decode cX12_knownBut 52 = .ok (.aload_n 0, 1) := dk_i kdX12_knownBut_32 10 rfl
theorem dX12_knownBut_53 : decode cX12_knownBut 53 = .ok (.iload_n 1, 1) := dk_i kdX12_knownBut_32 11 rfl
theorem dX12_knownBut_54 : decode cX12_knownBut 54 = .ok (.aload_n 0, 1) := dk_i kdX12_knownBut_32 12 rfl
theorem dX12_knownBut_55 : decode cX12_knownBut 55 = .ok (.getfield 32, 3) := dk_i kdX12_knownBut_32 13 rfl
theorem dX12_knownBut_58 : decode cX12_knownBut 58 = .ok (.invokevirtual 343, 3) := dk_i kdX12_knownBut_32 14 rfl
theorem dX12_knownBut_61 : decode cX12_knownBut 61 = .ok (.istore_n 3, 1) := dk_i kdX12_knownBut_32 15 rfl
def ldX12_knownBut_62 : List (Nat × ClassFile.Instr × Nat) := [(62, .aload_n 0, 1), (63, .getfield 36, 3), (66, .ifCond .ne 25, 3), (69, .iload_n 3, 1), (70, .iconst (-1), 1), (71, .if_icmp .eq 11, 3), (74, .iload_n 2, 1), (75, .iload_n 3, 1), (76, .invokestatic 347, 3), (79, .ifCond .eq 12, 3), (82, .aload_n 0, 1), (83, .iconst 3, 1), (84, .aload_n 0, 1), (85, .getfield 23, 3), (88, .invokevirtual 227, 3), (91, .aload_n 0, 1)]
theorem kdX12_knownBut_62 : dkO cX12_knownBut 62 ldX12_knownBut_62 = true := by decide +kernel
theorem dX12_knownBut_62 : decode cX12_knownBut 62 = .ok (.aload_n 0, 1) := dk_i kdX12_knownBut_62 0 rfl
theorem dX12_knownBut_63 : decode cX12_knownBut 63 = .ok (.getfield 36, 3) := dk_i kdX12_knownBut_62 1 rfl
theorem dX12_knownBut_66 : decode cX12_knownBut 66 = .ok (.ifCond .ne 25, 3) := dk_i kdX12_knownBut_62 2 rfl
theorem dX12_knownBut_69 : decode cX12_knownBut 69 = .ok (.iload_n 3, 1) := dk_i kdX12_knownBut_62 3 rfl
theorem dX12_knownBut_70 : decode cX12_knownBut 70 = .ok (.iconst (-1), 1) := dk_i kdX12_knownBut_62 4 rfl
theorem dX12_knownBut_71 : decode cX12_knownBut 71 = .ok (.if_icmp .eq 11, 3) := dk_i kdX12_knownBut_62 5 rfl
theorem dX12_knownBut_74 : decode cX12_knownBut 74 = .ok (.iload_n 2, 1) := dk_i kdX12_knownBut_62 6 rfl
theorem dX12_knownBut_75 : decode cX12_knownBut 75 = .ok (.iload_n 3, 1) := dk_i kdX12_knownBut_62 7 rfl
theorem dX12_knownBut_76 : decode cX12_knownBut 76 = .ok (.invokestatic 347, 3) := dk_i kdX12_knownBut_62 8 rfl
theorem dX12_knownBut_79 : decode cX12_knownBut 79 = .ok (.ifCond .eq 12, 3) := dk_i kdX12_knownBut_62 9 rfl
theorem dX12_knownBut_82 : decode cX12_knownBut 82 = .ok (.aload_n 0, 1) := dk_i kdX12_knownBut_62 10 rfl
theorem dX12_knownBut_83 : decode cX12_knownBut 83 = .ok (.iconst 3, 1) := dk_i kdX12_knownBut_62 11 rfl
theorem dX12_knownBut_84 : decode cX12_knownBut 84 = .ok (.aload_n 0, 1) := dk_i kdX12_knownBut_62 12 rfl
theorem dX12_knownBut_85 : decode cX12_knownBut 85 = .ok (.getfield 23, 3) := dk_i kdX12_knownBut_62 13 rfl
theorem dX12_knownBut_88 : decode cX12_knownBut 88 = .ok (.invokevirtual 227, 3) := dk_i kdX12_knownBut_62 14 rfl
theorem dX12_knownBut_91 : decode cX12_knownBut 91 = .ok (.aload_n 0, 1) := dk_i kdX12_knownBut_62 15 rfl
def ldX12_knownBut_92 : List (Nat × ClassFile.Instr × Nat) := [(92, .getfield 36, 3), (95, .ifCond .ne 7, 3), (98, .aload_n 0, 1), (99, .invokevirtual 244, 3), (102, .aload_n 0, 1), (103, .getfield 36, 3), (106, .ifCond .le 7, 3), (109, .iconst 0, 1), (110, .goto 4, 3), (113, .iload_n 3, 1), (114, .ireturn, 1)]
theorem kdX12_knownBut_92 : dkO cX12_knownBut 92 ldX12_knownBut_92 = true := by decide +kernel
theorem dX12_knownBut_92 : decode cX12_knownBut 92 = .ok (.getfield 36, 3) := dk_i kdX12_knownBut_92 0 rfl
theorem dX12_knownBut_95 : decode cX12_knownBut 95 = .ok (.ifCond .ne 7, 3) := dk_i kdX12_knownBut_92 1 rfl
theorem dX12_knownBut_98 : decode cX12_knownBut 98 = .ok (.aload_n 0, 1) := dk_i kdX12_knownBut_92 2 rfl
theorem dX12_knownBut_99 : decode cX12_knownBut 99 = .ok (.invokevirtual 244, 3) := dk_i kdX12_knownBut_92 3 rfl
theorem dX12_knownBut_102 : decode cX12_knownBut 102 = .ok (.aload_n 0, 1) := dk_i kdX12_knownBut_92 4 rfl
theorem dX12_knownBut_103 : decode cX12_knownBut 103 = .ok (.getfield 36, 3) := dk_i kdX12_knownBut_92 5 rfl
theorem dX12_knownBut_106 : decode cX12_knownBut 106 = .ok (.ifCond .le 7, 3) := dk_i kdX12_knownBut_92 6 rfl
theorem dX12_knownBut_109 : decode cX12_knownBut 109 = .ok (.iconst 0, 1) := dk_i kdX12_knownBut_92 7 rfl
theorem dX12_knownBut_110 : decode cX12_knownBut 110 = .ok (.goto 4, 3) := dk_i kdX12_knownBut_92 8 rfl
theorem dX12_knownBut_113 : decode cX12_knownBut 113 = .ok (.iload_n 3, 1) := dk_i kdX12_knownBut_92 9 rfl
theorem dX12_knownBut_114 : decode cX12_knownBut 114 = .ok (.ireturn, 1) := dk_i kdX12_knownBut_92 10 rfl
def ldX12_at_0 : List (Nat × ClassFile.Instr × Nat) := [(0, .bipush 25, 2), (2, .iload_n 1, 1), (3, .imul, 1), (4, .iconst 5, 1), (5, .iload_n 2, 1), (6, .imul, 1), (7, .iadd, 1), (8, .iload_n 3, 1), (9, .iadd, 1), (10, .ireturn, 1)]
theorem kdX12_at_0 : dkO cX12_at 0 ldX12_at_0 = true := by decide +kernel
theorem dX12_at_0 : decode cX12_at 0 = .ok (.bipush 25, 2) := dk_i kdX12_at_0 0 rfl
theorem dX12_at_2 : decode cX12_at 2 = .ok (.iload_n 1, 1) := dk_i kdX12_at_0 1 rfl
theorem dX12_at_3 : decode cX12_at 3 = .ok (.imul, 1) := dk_i kdX12_at_0 2 rfl
theorem dX12_at_4 : decode cX12_at 4 = .ok (.iconst 5, 1) := dk_i kdX12_at_0 3 rfl
theorem dX12_at_5 : decode cX12_at 5 = .ok (.iload_n 2, 1) := dk_i kdX12_at_0 4 rfl
theorem dX12_at_6 : decode cX12_at 6 = .ok (.imul, 1) := dk_i kdX12_at_0 5 rfl
theorem dX12_at_7 : decode cX12_at 7 = .ok (.iadd, 1) := dk_i kdX12_at_0 6 rfl
theorem dX12_at_8 : decode cX12_at 8 = .ok (.iload_n 3, 1) := dk_i kdX12_at_0 7 rfl
theorem dX12_at_9 : decode cX12_at 9 = .ok (.iadd, 1) := dk_i kdX12_at_0 8 rfl
theorem dX12_at_10 : decode cX12_at 10 = .ok (.ireturn, 1) := dk_i kdX12_at_0 9 rfl
def ldX12_thinging_0 : List (Nat × ClassFile.Instr × Nat) := [(0, .aload_n 0, 1), (1, .aload_n 0, 1), (2, .getfield 54, 3), (5, .aload_n 0, 1), (6, .getfield 115, 3), (9, .iaload, 1), (10, .bipush 6, 2), (12, .if_icmp .ne 7, 3), (15, .iconst 1, 1), (16, .goto 4, 3), (19, .iconst 0, 1), (20, .invokevirtual 351, 3), (23, .ifCond .ne 4, 3), (26, .return_, 1), (27, .bipush 6, 2), (29, .aload_n 0, 1)]
theorem kdX12_thinging_0 : dkO cX12_thinging 0 ldX12_thinging_0 = true := by decide +kernel
theorem dX12_thinging_0 : decode cX12_thinging 0 = .ok (.aload_n 0, 1) := dk_i kdX12_thinging_0 0 rfl
theorem dX12_thinging_1 : decode cX12_thinging 1 = .ok (.aload_n 0, 1) := dk_i kdX12_thinging_0 1 rfl
theorem dX12_thinging_2 : decode cX12_thinging 2 = .ok (.getfield 54, 3) := dk_i kdX12_thinging_0 2 rfl
theorem dX12_thinging_5 : decode cX12_thinging 5 = .ok (.aload_n 0, 1) := dk_i kdX12_thinging_0 3 rfl
theorem dX12_thinging_6 : decode cX12_thinging 6 = .ok (.getfield 115, 3) := dk_i kdX12_thinging_0 4 rfl
theorem dX12_thinging_9 : decode cX12_thinging 9 = .ok (.iaload, 1) := dk_i kdX12_thinging_0 5 rfl
theorem dX12_thinging_10 : decode cX12_thinging 10 = .ok (.bipush 6, 2) := dk_i kdX12_thinging_0 6 rfl
theorem dX12_thinging_12 : decode cX12_thinging 12 = .ok (.if_icmp .ne 7, 3) := dk_i kdX12_thinging_0 7 rfl
theorem dX12_thinging_15 : decode cX12_thinging 15 = .ok (.iconst 1, 1) := dk_i kdX12_thinging_0 8 rfl
theorem dX12_thinging_16 : decode cX12_thinging 16 = .ok (.goto 4, 3) := dk_i kdX12_thinging_0 9 rfl
theorem dX12_thinging_19 : decode cX12_thinging 19 = .ok (.iconst 0, 1) := dk_i kdX12_thinging_0 10 rfl
theorem dX12_thinging_20 : decode cX12_thinging 20 = .ok (.invokevirtual 351, 3) := dk_i kdX12_thinging_0 11 rfl
theorem dX12_thinging_23 : decode cX12_thinging 23 = .ok (.ifCond .ne 4, 3) := dk_i kdX12_thinging_0 12 rfl
theorem dX12_thinging_26 : decode cX12_thinging 26 = .ok (.return_, 1) := dk_i kdX12_thinging_0 13 rfl
theorem dX12_thinging_27 : decode cX12_thinging 27 = .ok (.bipush 6, 2) := dk_i kdX12_thinging_0 14 rfl
theorem dX12_thinging_29 : decode cX12_thinging 29 = .ok (.aload_n 0, 1) := dk_i kdX12_thinging_0 15 rfl
def ldX12_thinging_30 : List (Nat × ClassFile.Instr × Nat) := [(30, .getfield 115, 3), (33, .imul, 1), (34, .aload_n 0, 1), (35, .getfield 54, 3), (38, .aload_n 0, 1), (39, .getfield 115, 3), (42, .iaload, 1), (43, .iadd, 1), (44, .istore_n 1, 1), (45, .aload_n 0, 1), (46, .getfield 102, 3), (49, .iload_n 1, 1), (50, .aload_n 0, 1), (51, .invokevirtual 355, 3), (54, .lastore, 1), (55, .aload_n 0, 1)]
theorem kdX12_thinging_30 : dkO cX12_thinging 30 ldX12_thinging_30 = true := by decide +kernel
theorem dX12_thinging_30 : decode cX12_thinging 30 = .ok (.getfield 115, 3) := dk_i kdX12_thinging_30 0 rfl
theorem dX12_thinging_33 : decode cX12_thinging 33 = .ok (.imul, 1) := dk_i kdX12_thinging_30 1 rfl
theorem dX12_thinging_34 : decode cX12_thinging 34 = .ok (.aload_n 0, 1) := dk_i kdX12_thinging_30 2 rfl
theorem dX12_thinging_35 : decode cX12_thinging 35 = .ok (.getfield 54, 3) := dk_i kdX12_thinging_30 3 rfl
theorem dX12_thinging_38 : decode cX12_thinging 38 = .ok (.aload_n 0, 1) := dk_i kdX12_thinging_30 4 rfl
theorem dX12_thinging_39 : decode cX12_thinging 39 = .ok (.getfield 115, 3) := dk_i kdX12_thinging_30 5 rfl
theorem dX12_thinging_42 : decode cX12_thinging 42 = .ok (.iaload, 1) := dk_i kdX12_thinging_30 6 rfl
theorem dX12_thinging_43 : decode cX12_thinging 43 = .ok (.iadd, 1) := dk_i kdX12_thinging_30 7 rfl
theorem dX12_thinging_44 : decode cX12_thinging 44 = .ok (.istore_n 1, 1) := dk_i kdX12_thinging_30 8 rfl
theorem dX12_thinging_45 : decode cX12_thinging 45 = .ok (.aload_n 0, 1) := dk_i kdX12_thinging_30 9 rfl
theorem dX12_thinging_46 : decode cX12_thinging 46 = .ok (.getfield 102, 3) := dk_i kdX12_thinging_30 10 rfl
theorem dX12_thinging_49 : decode cX12_thinging 49 = .ok (.iload_n 1, 1) := dk_i kdX12_thinging_30 11 rfl
theorem dX12_thinging_50 : decode cX12_thinging 50 = .ok (.aload_n 0, 1) := dk_i kdX12_thinging_30 12 rfl
theorem dX12_thinging_51 : decode cX12_thinging 51 = .ok (.invokevirtual 355, 3) := dk_i kdX12_thinging_30 13 rfl
theorem dX12_thinging_54 : decode cX12_thinging 54 = .ok (.lastore, 1) := dk_i kdX12_thinging_30 14 rfl
theorem dX12_thinging_55 : decode cX12_thinging 55 = .ok (.aload_n 0, 1) := dk_i kdX12_thinging_30 15 rfl
def ldX12_thinging_56 : List (Nat × ClassFile.Instr × Nat) := [(56, .ldc2_w 249, 3), (59, .invokevirtual 359, 3), (62, .aload_n 0, 1), (63, .getfield 57, 3), (66, .iload_n 1, 1), (67, .aload_n 0, 1), (68, .iconst 0, 1), (69, .bipush 99, 2), (71, .invokevirtual 363, 3), (74, .iastore, 1), (75, .aload_n 0, 1), (76, .ldc2_w 251, 3), (79, .invokevirtual 359, 3), (82, .aload_n 0, 1), (83, .getfield 60, 3), (86, .iload_n 1, 1)]
theorem kdX12_thinging_56 : dkO cX12_thinging 56 ldX12_thinging_56 = true := by decide +kernel
theorem dX12_thinging_56 : decode cX12_thinging 56 = .ok (.ldc2_w 249, 3) := dk_i kdX12_thinging_56 0 rfl
theorem dX12_thinging_59 : decode cX12_thinging 59 = .ok (.invokevirtual 359, 3) := dk_i kdX12_thinging_56 1 rfl
theorem dX12_thinging_62 : decode cX12_thinging 62 = .ok (.aload_n 0, 1) := dk_i kdX12_thinging_56 2 rfl
theorem dX12_thinging_63 : decode cX12_thinging 63 = .ok (.getfield 57, 3) := dk_i kdX12_thinging_56 3 rfl
theorem dX12_thinging_66 : decode cX12_thinging 66 = .ok (.iload_n 1, 1) := dk_i kdX12_thinging_56 4 rfl
theorem dX12_thinging_67 : decode cX12_thinging 67 = .ok (.aload_n 0, 1) := dk_i kdX12_thinging_56 5 rfl
theorem dX12_thinging_68 : decode cX12_thinging 68 = .ok (.iconst 0, 1) := dk_i kdX12_thinging_56 6 rfl
theorem dX12_thinging_69 : decode cX12_thinging 69 = .ok (.bipush 99, 2) := dk_i kdX12_thinging_56 7 rfl
theorem dX12_thinging_71 : decode cX12_thinging 71 = .ok (.invokevirtual 363, 3) := dk_i kdX12_thinging_56 8 rfl
theorem dX12_thinging_74 : decode cX12_thinging 74 = .ok (.iastore, 1) := dk_i kdX12_thinging_56 9 rfl
theorem dX12_thinging_75 : decode cX12_thinging 75 = .ok (.aload_n 0, 1) := dk_i kdX12_thinging_56 10 rfl
theorem dX12_thinging_76 : decode cX12_thinging 76 = .ok (.ldc2_w 251, 3) := dk_i kdX12_thinging_56 11 rfl
theorem dX12_thinging_79 : decode cX12_thinging 79 = .ok (.invokevirtual 359, 3) := dk_i kdX12_thinging_56 12 rfl
theorem dX12_thinging_82 : decode cX12_thinging 82 = .ok (.aload_n 0, 1) := dk_i kdX12_thinging_56 13 rfl
theorem dX12_thinging_83 : decode cX12_thinging 83 = .ok (.getfield 60, 3) := dk_i kdX12_thinging_56 14 rfl
theorem dX12_thinging_86 : decode cX12_thinging 86 = .ok (.iload_n 1, 1) := dk_i kdX12_thinging_56 15 rfl
def ldX12_thinging_87 : List (Nat × ClassFile.Instr × Nat) := [(87, .aload_n 0, 1), (88, .iconst 1, 1), (89, .bipush 99, 2), (91, .invokevirtual 363, 3), (94, .iastore, 1), (95, .aload_n 0, 1), (96, .getfield 36, 3), (99, .ifCond .ne 16, 3), (102, .aload_n 0, 1), (103, .getfield 54, 3), (106, .aload_n 0, 1), (107, .getfield 115, 3), (110, .dup2, 1), (111, .iaload, 1), (112, .iconst 1, 1), (113, .iadd, 1)]
theorem kdX12_thinging_87 : dkO cX12_thinging 87 ldX12_thinging_87 = true := by decide +kernel
theorem dX12_thinging_87 : decode cX12_thinging 87 = .ok (.aload_n 0, 1) := dk_i kdX12_thinging_87 0 rfl
theorem dX12_thinging_88 : decode cX12_thinging 88 = .ok (.iconst 1, 1) := dk_i kdX12_thinging_87 1 rfl
theorem dX12_thinging_89 : decode cX12_thinging 89 = .ok (.bipush 99, 2) := dk_i kdX12_thinging_87 2 rfl
theorem dX12_thinging_91 : decode cX12_thinging 91 = .ok (.invokevirtual 363, 3) := dk_i kdX12_thinging_87 3 rfl
theorem dX12_thinging_94 : decode cX12_thinging 94 = .ok (.iastore, 1) := dk_i kdX12_thinging_87 4 rfl
theorem dX12_thinging_95 : decode cX12_thinging 95 = .ok (.aload_n 0, 1) := dk_i kdX12_thinging_87 5 rfl
theorem dX12_thinging_96 : decode cX12_thinging 96 = .ok (.getfield 36, 3) := dk_i kdX12_thinging_87 6 rfl
theorem dX12_thinging_99 : decode cX12_thinging 99 = .ok (.ifCond .ne 16, 3) := dk_i kdX12_thinging_87 7 rfl
theorem dX12_thinging_102 : decode cX12_thinging 102 = .ok (.aload_n 0, 1) := dk_i kdX12_thinging_87 8 rfl
theorem dX12_thinging_103 : decode cX12_thinging 103 = .ok (.getfield 54, 3) := dk_i kdX12_thinging_87 9 rfl
theorem dX12_thinging_106 : decode cX12_thinging 106 = .ok (.aload_n 0, 1) := dk_i kdX12_thinging_87 10 rfl
theorem dX12_thinging_107 : decode cX12_thinging 107 = .ok (.getfield 115, 3) := dk_i kdX12_thinging_87 11 rfl
theorem dX12_thinging_110 : decode cX12_thinging 110 = .ok (.dup2, 1) := dk_i kdX12_thinging_87 12 rfl
theorem dX12_thinging_111 : decode cX12_thinging 111 = .ok (.iaload, 1) := dk_i kdX12_thinging_87 13 rfl
theorem dX12_thinging_112 : decode cX12_thinging 112 = .ok (.iconst 1, 1) := dk_i kdX12_thinging_87 14 rfl
theorem dX12_thinging_113 : decode cX12_thinging 113 = .ok (.iadd, 1) := dk_i kdX12_thinging_87 15 rfl
def ldX12_thinging_114 : List (Nat × ClassFile.Instr × Nat) := [(114, .iastore, 1), (115, .return_, 1)]
theorem kdX12_thinging_114 : dkO cX12_thinging 114 ldX12_thinging_114 = true := by decide +kernel
theorem dX12_thinging_114 : decode cX12_thinging 114 = .ok (.iastore, 1) := dk_i kdX12_thinging_114 0 rfl
theorem dX12_thinging_115 : decode cX12_thinging 115 = .ok (.return_, 1) := dk_i kdX12_thinging_114 1 rfl
def ldX12_cornering_0 : List (Nat × ClassFile.Instr × Nat) := [(0, .aload_n 0, 1), (1, .aload_n 0, 1), (2, .getfield 63, 3), (5, .aload_n 0, 1), (6, .getfield 115, 3), (9, .iaload, 1), (10, .iconst 5, 1), (11, .if_icmp .ne 7, 3), (14, .iconst 1, 1), (15, .goto 4, 3), (18, .iconst 0, 1), (19, .invokevirtual 351, 3), (22, .ifCond .ne 4, 3), (25, .return_, 1), (26, .aload_n 0, 1), (27, .getfield 106, 3)]
theorem kdX12_cornering_0 : dkO cX12_cornering 0 ldX12_cornering_0 = true := by decide +kernel
theorem dX12_cornering_0 : decode cX12_cornering 0 = .ok (.aload_n 0, 1) := dk_i kdX12_cornering_0 0 rfl
theorem dX12_cornering_1 : decode cX12_cornering 1 = .ok (.aload_n 0, 1) := dk_i kdX12_cornering_0 1 rfl
theorem dX12_cornering_2 : decode cX12_cornering 2 = .ok (.getfield 63, 3) := dk_i kdX12_cornering_0 2 rfl
theorem dX12_cornering_5 : decode cX12_cornering 5 = .ok (.aload_n 0, 1) := dk_i kdX12_cornering_0 3 rfl
theorem dX12_cornering_6 : decode cX12_cornering 6 = .ok (.getfield 115, 3) := dk_i kdX12_cornering_0 4 rfl
theorem dX12_cornering_9 : decode cX12_cornering 9 = .ok (.iaload, 1) := dk_i kdX12_cornering_0 5 rfl
theorem dX12_cornering_10 : decode cX12_cornering 10 = .ok (.iconst 5, 1) := dk_i kdX12_cornering_0 6 rfl
theorem dX12_cornering_11 : decode cX12_cornering 11 = .ok (.if_icmp .ne 7, 3) := dk_i kdX12_cornering_0 7 rfl
theorem dX12_cornering_14 : decode cX12_cornering 14 = .ok (.iconst 1, 1) := dk_i kdX12_cornering_0 8 rfl
theorem dX12_cornering_15 : decode cX12_cornering 15 = .ok (.goto 4, 3) := dk_i kdX12_cornering_0 9 rfl
theorem dX12_cornering_18 : decode cX12_cornering 18 = .ok (.iconst 0, 1) := dk_i kdX12_cornering_0 10 rfl
theorem dX12_cornering_19 : decode cX12_cornering 19 = .ok (.invokevirtual 351, 3) := dk_i kdX12_cornering_0 11 rfl
theorem dX12_cornering_22 : decode cX12_cornering 22 = .ok (.ifCond .ne 4, 3) := dk_i kdX12_cornering_0 12 rfl
theorem dX12_cornering_25 : decode cX12_cornering 25 = .ok (.return_, 1) := dk_i kdX12_cornering_0 13 rfl
theorem dX12_cornering_26 : decode cX12_cornering 26 = .ok (.aload_n 0, 1) := dk_i kdX12_cornering_0 14 rfl
theorem dX12_cornering_27 : decode cX12_cornering 27 = .ok (.getfield 106, 3) := dk_i kdX12_cornering_0 15 rfl
def ldX12_cornering_30 : List (Nat × ClassFile.Instr × Nat) := [(30, .iconst 5, 1), (31, .aload_n 0, 1), (32, .getfield 115, 3), (35, .imul, 1), (36, .aload_n 0, 1), (37, .getfield 63, 3), (40, .aload_n 0, 1), (41, .getfield 115, 3), (44, .iaload, 1), (45, .iadd, 1), (46, .aload_n 0, 1), (47, .invokevirtual 355, 3), (50, .lastore, 1), (51, .aload_n 0, 1), (52, .getfield 66, 3), (55, .iconst 5, 1)]
theorem kdX12_cornering_30 : dkO cX12_cornering 30 ldX12_cornering_30 = true := by decide +kernel
theorem dX12_cornering_30 : decode cX12_cornering 30 = .ok (.iconst 5, 1) := dk_i kdX12_cornering_30 0 rfl
theorem dX12_cornering_31 : decode cX12_cornering 31 = .ok (.aload_n 0, 1) := dk_i kdX12_cornering_30 1 rfl
theorem dX12_cornering_32 : decode cX12_cornering 32 = .ok (.getfield 115, 3) := dk_i kdX12_cornering_30 2 rfl
theorem dX12_cornering_35 : decode cX12_cornering 35 = .ok (.imul, 1) := dk_i kdX12_cornering_30 3 rfl
theorem dX12_cornering_36 : decode cX12_cornering 36 = .ok (.aload_n 0, 1) := dk_i kdX12_cornering_30 4 rfl
theorem dX12_cornering_37 : decode cX12_cornering 37 = .ok (.getfield 63, 3) := dk_i kdX12_cornering_30 5 rfl
theorem dX12_cornering_40 : decode cX12_cornering 40 = .ok (.aload_n 0, 1) := dk_i kdX12_cornering_30 6 rfl
theorem dX12_cornering_41 : decode cX12_cornering 41 = .ok (.getfield 115, 3) := dk_i kdX12_cornering_30 7 rfl
theorem dX12_cornering_44 : decode cX12_cornering 44 = .ok (.iaload, 1) := dk_i kdX12_cornering_30 8 rfl
theorem dX12_cornering_45 : decode cX12_cornering 45 = .ok (.iadd, 1) := dk_i kdX12_cornering_30 9 rfl
theorem dX12_cornering_46 : decode cX12_cornering 46 = .ok (.aload_n 0, 1) := dk_i kdX12_cornering_30 10 rfl
theorem dX12_cornering_47 : decode cX12_cornering 47 = .ok (.invokevirtual 355, 3) := dk_i kdX12_cornering_30 11 rfl
theorem dX12_cornering_50 : decode cX12_cornering 50 = .ok (.lastore, 1) := dk_i kdX12_cornering_30 12 rfl
theorem dX12_cornering_51 : decode cX12_cornering 51 = .ok (.aload_n 0, 1) := dk_i kdX12_cornering_30 13 rfl
theorem dX12_cornering_52 : decode cX12_cornering 52 = .ok (.getfield 66, 3) := dk_i kdX12_cornering_30 14 rfl
theorem dX12_cornering_55 : decode cX12_cornering 55 = .ok (.iconst 5, 1) := dk_i kdX12_cornering_30 15 rfl
def ldX12_cornering_56 : List (Nat × ClassFile.Instr × Nat) := [(56, .aload_n 0, 1), (57, .getfield 115, 3), (60, .imul, 1), (61, .aload_n 0, 1), (62, .getfield 63, 3), (65, .aload_n 0, 1), (66, .getfield 115, 3), (69, .iaload, 1), (70, .iadd, 1), (71, .iconst (-1), 1), (72, .iastore, 1), (73, .aload_n 0, 1), (74, .getfield 36, 3), (77, .ifCond .ne 16, 3), (80, .aload_n 0, 1), (81, .getfield 63, 3)]
theorem kdX12_cornering_56 : dkO cX12_cornering 56 ldX12_cornering_56 = true := by decide +kernel
theorem dX12_cornering_56 : decode cX12_cornering 56 = .ok (.aload_n 0, 1) := dk_i kdX12_cornering_56 0 rfl
theorem dX12_cornering_57 : decode cX12_cornering 57 = .ok (.getfield 115, 3) := dk_i kdX12_cornering_56 1 rfl
theorem dX12_cornering_60 : decode cX12_cornering 60 = .ok (.imul, 1) := dk_i kdX12_cornering_56 2 rfl
theorem dX12_cornering_61 : decode cX12_cornering 61 = .ok (.aload_n 0, 1) := dk_i kdX12_cornering_56 3 rfl
theorem dX12_cornering_62 : decode cX12_cornering 62 = .ok (.getfield 63, 3) := dk_i kdX12_cornering_56 4 rfl
theorem dX12_cornering_65 : decode cX12_cornering 65 = .ok (.aload_n 0, 1) := dk_i kdX12_cornering_56 5 rfl
theorem dX12_cornering_66 : decode cX12_cornering 66 = .ok (.getfield 115, 3) := dk_i kdX12_cornering_56 6 rfl
theorem dX12_cornering_69 : decode cX12_cornering 69 = .ok (.iaload, 1) := dk_i kdX12_cornering_56 7 rfl
theorem dX12_cornering_70 : decode cX12_cornering 70 = .ok (.iadd, 1) := dk_i kdX12_cornering_56 8 rfl
theorem dX12_cornering_71 : decode cX12_cornering 71 = .ok (.iconst (-1), 1) := dk_i kdX12_cornering_56 9 rfl
theorem dX12_cornering_72 : decode cX12_cornering 72 = .ok (.iastore, 1) := dk_i kdX12_cornering_56 10 rfl
theorem dX12_cornering_73 : decode cX12_cornering 73 = .ok (.aload_n 0, 1) := dk_i kdX12_cornering_56 11 rfl
theorem dX12_cornering_74 : decode cX12_cornering 74 = .ok (.getfield 36, 3) := dk_i kdX12_cornering_56 12 rfl
theorem dX12_cornering_77 : decode cX12_cornering 77 = .ok (.ifCond .ne 16, 3) := dk_i kdX12_cornering_56 13 rfl
theorem dX12_cornering_80 : decode cX12_cornering 80 = .ok (.aload_n 0, 1) := dk_i kdX12_cornering_56 14 rfl
theorem dX12_cornering_81 : decode cX12_cornering 81 = .ok (.getfield 63, 3) := dk_i kdX12_cornering_56 15 rfl
def ldX12_cornering_84 : List (Nat × ClassFile.Instr × Nat) := [(84, .aload_n 0, 1), (85, .getfield 115, 3), (88, .dup2, 1), (89, .iaload, 1), (90, .iconst 1, 1), (91, .iadd, 1), (92, .iastore, 1), (93, .return_, 1)]
theorem kdX12_cornering_84 : dkO cX12_cornering 84 ldX12_cornering_84 = true := by decide +kernel
theorem dX12_cornering_84 : decode cX12_cornering 84 = .ok (.aload_n 0, 1) := dk_i kdX12_cornering_84 0 rfl
theorem dX12_cornering_85 : decode cX12_cornering 85 = .ok (.getfield 115, 3) := dk_i kdX12_cornering_84 1 rfl
theorem dX12_cornering_88 : decode cX12_cornering 88 = .ok (.dup2, 1) := dk_i kdX12_cornering_84 2 rfl
theorem dX12_cornering_89 : decode cX12_cornering 89 = .ok (.iaload, 1) := dk_i kdX12_cornering_84 3 rfl
theorem dX12_cornering_90 : decode cX12_cornering 90 = .ok (.iconst 1, 1) := dk_i kdX12_cornering_84 4 rfl
theorem dX12_cornering_91 : decode cX12_cornering 91 = .ok (.iadd, 1) := dk_i kdX12_cornering_84 5 rfl
theorem dX12_cornering_92 : decode cX12_cornering 92 = .ok (.iastore, 1) := dk_i kdX12_cornering_84 6 rfl
theorem dX12_cornering_93 : decode cX12_cornering 93 = .ok (.return_, 1) := dk_i kdX12_cornering_84 7 rfl
def ldX12_roading_0 : List (Nat × ClassFile.Instr × Nat) := [(0, .aload_n 0, 1), (1, .aload_n 0, 1), (2, .getfield 69, 3), (5, .aload_n 0, 1), (6, .getfield 115, 3), (9, .iaload, 1), (10, .bipush 10, 2), (12, .if_icmp .ne 7, 3), (15, .iconst 1, 1), (16, .goto 4, 3), (19, .iconst 0, 1), (20, .invokevirtual 351, 3), (23, .ifCond .ne 4, 3), (26, .return_, 1), (27, .aload_n 0, 1), (28, .iconst 1, 1)]
theorem kdX12_roading_0 : dkO cX12_roading 0 ldX12_roading_0 = true := by decide +kernel
theorem dX12_roading_0 : decode cX12_roading 0 = .ok (.aload_n 0, 1) := dk_i kdX12_roading_0 0 rfl
theorem dX12_roading_1 : decode cX12_roading 1 = .ok (.aload_n 0, 1) := dk_i kdX12_roading_0 1 rfl
theorem dX12_roading_2 : decode cX12_roading 2 = .ok (.getfield 69, 3) := dk_i kdX12_roading_0 2 rfl
theorem dX12_roading_5 : decode cX12_roading 5 = .ok (.aload_n 0, 1) := dk_i kdX12_roading_0 3 rfl
theorem dX12_roading_6 : decode cX12_roading 6 = .ok (.getfield 115, 3) := dk_i kdX12_roading_0 4 rfl
theorem dX12_roading_9 : decode cX12_roading 9 = .ok (.iaload, 1) := dk_i kdX12_roading_0 5 rfl
theorem dX12_roading_10 : decode cX12_roading 10 = .ok (.bipush 10, 2) := dk_i kdX12_roading_0 6 rfl
theorem dX12_roading_12 : decode cX12_roading 12 = .ok (.if_icmp .ne 7, 3) := dk_i kdX12_roading_0 7 rfl
theorem dX12_roading_15 : decode cX12_roading 15 = .ok (.iconst 1, 1) := dk_i kdX12_roading_0 8 rfl
theorem dX12_roading_16 : decode cX12_roading 16 = .ok (.goto 4, 3) := dk_i kdX12_roading_0 9 rfl
theorem dX12_roading_19 : decode cX12_roading 19 = .ok (.iconst 0, 1) := dk_i kdX12_roading_0 10 rfl
theorem dX12_roading_20 : decode cX12_roading 20 = .ok (.invokevirtual 351, 3) := dk_i kdX12_roading_0 11 rfl
theorem dX12_roading_23 : decode cX12_roading 23 = .ok (.ifCond .ne 4, 3) := dk_i kdX12_roading_0 12 rfl
theorem dX12_roading_26 : decode cX12_roading 26 = .ok (.return_, 1) := dk_i kdX12_roading_0 13 rfl
theorem dX12_roading_27 : decode cX12_roading 27 = .ok (.aload_n 0, 1) := dk_i kdX12_roading_0 14 rfl
theorem dX12_roading_28 : decode cX12_roading 28 = .ok (.iconst 1, 1) := dk_i kdX12_roading_0 15 rfl
def ldX12_roading_29 : List (Nat × ClassFile.Instr × Nat) := [(29, .iconst 0, 1), (30, .invokevirtual 366, 3), (33, .istore_n 1, 1), (34, .aload_n 0, 1), (35, .ldc2_w 257, 3), (38, .invokevirtual 359, 3), (41, .iconst 1, 1), (42, .iload_n 1, 1), (43, .ishl, 1), (44, .istore_n 2, 1), (45, .iconst 0, 1), (46, .istore_n 3, 1), (47, .iload_n 3, 1), (48, .iconst 5, 1), (49, .if_icmp .ge 37, 3), (52, .iload_n 2, 1)]
theorem kdX12_roading_29 : dkO cX12_roading 29 ldX12_roading_29 = true := by decide +kernel
theorem dX12_roading_29 : decode cX12_roading 29 = .ok (.iconst 0, 1) := dk_i kdX12_roading_29 0 rfl
theorem dX12_roading_30 : decode cX12_roading 30 = .ok (.invokevirtual 366, 3) := dk_i kdX12_roading_29 1 rfl
theorem dX12_roading_33 : decode cX12_roading 33 = .ok (.istore_n 1, 1) := dk_i kdX12_roading_29 2 rfl
theorem dX12_roading_34 : decode cX12_roading 34 = .ok (.aload_n 0, 1) := dk_i kdX12_roading_29 3 rfl
theorem dX12_roading_35 : decode cX12_roading 35 = .ok (.ldc2_w 257, 3) := dk_i kdX12_roading_29 4 rfl
theorem dX12_roading_38 : decode cX12_roading 38 = .ok (.invokevirtual 359, 3) := dk_i kdX12_roading_29 5 rfl
theorem dX12_roading_41 : decode cX12_roading 41 = .ok (.iconst 1, 1) := dk_i kdX12_roading_29 6 rfl
theorem dX12_roading_42 : decode cX12_roading 42 = .ok (.iload_n 1, 1) := dk_i kdX12_roading_29 7 rfl
theorem dX12_roading_43 : decode cX12_roading 43 = .ok (.ishl, 1) := dk_i kdX12_roading_29 8 rfl
theorem dX12_roading_44 : decode cX12_roading 44 = .ok (.istore_n 2, 1) := dk_i kdX12_roading_29 9 rfl
theorem dX12_roading_45 : decode cX12_roading 45 = .ok (.iconst 0, 1) := dk_i kdX12_roading_29 10 rfl
theorem dX12_roading_46 : decode cX12_roading 46 = .ok (.istore_n 3, 1) := dk_i kdX12_roading_29 11 rfl
theorem dX12_roading_47 : decode cX12_roading 47 = .ok (.iload_n 3, 1) := dk_i kdX12_roading_29 12 rfl
theorem dX12_roading_48 : decode cX12_roading 48 = .ok (.iconst 5, 1) := dk_i kdX12_roading_29 13 rfl
theorem dX12_roading_49 : decode cX12_roading 49 = .ok (.if_icmp .ge 37, 3) := dk_i kdX12_roading_29 14 rfl
theorem dX12_roading_52 : decode cX12_roading 52 = .ok (.iload_n 2, 1) := dk_i kdX12_roading_29 15 rfl
def ldX12_roading_53 : List (Nat × ClassFile.Instr × Nat) := [(53, .aload_n 0, 1), (54, .getfield 72, 3), (57, .aload_n 0, 1), (58, .aload_n 0, 1), (59, .getfield 115, 3), (62, .iload_n 1, 1), (63, .iload_n 3, 1), (64, .invokevirtual 369, 3), (67, .iaload, 1), (68, .ifCond .le 9, 3), (71, .iconst 1, 1), (72, .iload_n 3, 1), (73, .ishl, 1), (74, .goto 4, 3), (77, .iconst 0, 1), (78, .ior, 1)]
theorem kdX12_roading_53 : dkO cX12_roading 53 ldX12_roading_53 = true := by decide +kernel
theorem dX12_roading_53 : decode cX12_roading 53 = .ok (.aload_n 0, 1) := dk_i kdX12_roading_53 0 rfl
theorem dX12_roading_54 : decode cX12_roading 54 = .ok (.getfield 72, 3) := dk_i kdX12_roading_53 1 rfl
theorem dX12_roading_57 : decode cX12_roading 57 = .ok (.aload_n 0, 1) := dk_i kdX12_roading_53 2 rfl
theorem dX12_roading_58 : decode cX12_roading 58 = .ok (.aload_n 0, 1) := dk_i kdX12_roading_53 3 rfl
theorem dX12_roading_59 : decode cX12_roading 59 = .ok (.getfield 115, 3) := dk_i kdX12_roading_53 4 rfl
theorem dX12_roading_62 : decode cX12_roading 62 = .ok (.iload_n 1, 1) := dk_i kdX12_roading_53 5 rfl
theorem dX12_roading_63 : decode cX12_roading 63 = .ok (.iload_n 3, 1) := dk_i kdX12_roading_53 6 rfl
theorem dX12_roading_64 : decode cX12_roading 64 = .ok (.invokevirtual 369, 3) := dk_i kdX12_roading_53 7 rfl
theorem dX12_roading_67 : decode cX12_roading 67 = .ok (.iaload, 1) := dk_i kdX12_roading_53 8 rfl
theorem dX12_roading_68 : decode cX12_roading 68 = .ok (.ifCond .le 9, 3) := dk_i kdX12_roading_53 9 rfl
theorem dX12_roading_71 : decode cX12_roading 71 = .ok (.iconst 1, 1) := dk_i kdX12_roading_53 10 rfl
theorem dX12_roading_72 : decode cX12_roading 72 = .ok (.iload_n 3, 1) := dk_i kdX12_roading_53 11 rfl
theorem dX12_roading_73 : decode cX12_roading 73 = .ok (.ishl, 1) := dk_i kdX12_roading_53 12 rfl
theorem dX12_roading_74 : decode cX12_roading 74 = .ok (.goto 4, 3) := dk_i kdX12_roading_53 13 rfl
theorem dX12_roading_77 : decode cX12_roading 77 = .ok (.iconst 0, 1) := dk_i kdX12_roading_53 14 rfl
theorem dX12_roading_78 : decode cX12_roading 78 = .ok (.ior, 1) := dk_i kdX12_roading_53 15 rfl
def ldX12_roading_79 : List (Nat × ClassFile.Instr × Nat) := [(79, .istore_n 2, 1), (80, .iinc 3 1, 3), (83, .goto (-36), 3), (86, .aload_n 0, 1), (87, .iconst 1, 1), (88, .iload_n 2, 1), (89, .invokevirtual 366, 3), (92, .istore_n 3, 1), (93, .aload_n 0, 1), (94, .ldc2_w 259, 3), (97, .invokevirtual 359, 3), (100, .aload_n 0, 1), (101, .iconst 1, 1), (102, .bipush 30, 2), (104, .invokevirtual 363, 3), (107, .istore 4, 2)]
theorem kdX12_roading_79 : dkO cX12_roading 79 ldX12_roading_79 = true := by decide +kernel
theorem dX12_roading_79 : decode cX12_roading 79 = .ok (.istore_n 2, 1) := dk_i kdX12_roading_79 0 rfl
theorem dX12_roading_80 : decode cX12_roading 80 = .ok (.iinc 3 1, 3) := dk_i kdX12_roading_79 1 rfl
theorem dX12_roading_83 : decode cX12_roading 83 = .ok (.goto (-36), 3) := dk_i kdX12_roading_79 2 rfl
theorem dX12_roading_86 : decode cX12_roading 86 = .ok (.aload_n 0, 1) := dk_i kdX12_roading_79 3 rfl
theorem dX12_roading_87 : decode cX12_roading 87 = .ok (.iconst 1, 1) := dk_i kdX12_roading_79 4 rfl
theorem dX12_roading_88 : decode cX12_roading 88 = .ok (.iload_n 2, 1) := dk_i kdX12_roading_79 5 rfl
theorem dX12_roading_89 : decode cX12_roading 89 = .ok (.invokevirtual 366, 3) := dk_i kdX12_roading_79 6 rfl
theorem dX12_roading_92 : decode cX12_roading 92 = .ok (.istore_n 3, 1) := dk_i kdX12_roading_79 7 rfl
theorem dX12_roading_93 : decode cX12_roading 93 = .ok (.aload_n 0, 1) := dk_i kdX12_roading_79 8 rfl
theorem dX12_roading_94 : decode cX12_roading 94 = .ok (.ldc2_w 259, 3) := dk_i kdX12_roading_79 9 rfl
theorem dX12_roading_97 : decode cX12_roading 97 = .ok (.invokevirtual 359, 3) := dk_i kdX12_roading_79 10 rfl
theorem dX12_roading_100 : decode cX12_roading 100 = .ok (.aload_n 0, 1) := dk_i kdX12_roading_79 11 rfl
theorem dX12_roading_101 : decode cX12_roading 101 = .ok (.iconst 1, 1) := dk_i kdX12_roading_79 12 rfl
theorem dX12_roading_102 : decode cX12_roading 102 = .ok (.bipush 30, 2) := dk_i kdX12_roading_79 13 rfl
theorem dX12_roading_104 : decode cX12_roading 104 = .ok (.invokevirtual 363, 3) := dk_i kdX12_roading_79 14 rfl
theorem dX12_roading_107 : decode cX12_roading 107 = .ok (.istore 4, 2) := dk_i kdX12_roading_79 15 rfl
def ldX12_roading_109 : List (Nat × ClassFile.Instr × Nat) := [(109, .aload_n 0, 1), (110, .getfield 36, 3), (113, .ifCond .le 4, 3), (116, .return_, 1), (117, .aload_n 0, 1), (118, .getfield 72, 3), (121, .aload_n 0, 1), (122, .aload_n 0, 1), (123, .getfield 115, 3), (126, .iload_n 1, 1), (127, .iload_n 3, 1), (128, .invokevirtual 369, 3), (131, .iload 4, 2), (133, .iastore, 1), (134, .aload_n 0, 1), (135, .getfield 72, 3)]
theorem kdX12_roading_109 : dkO cX12_roading 109 ldX12_roading_109 = true := by decide +kernel
theorem dX12_roading_109 : decode cX12_roading 109 = .ok (.aload_n 0, 1) := dk_i kdX12_roading_109 0 rfl
theorem dX12_roading_110 : decode cX12_roading 110 = .ok (.getfield 36, 3) := dk_i kdX12_roading_109 1 rfl
theorem dX12_roading_113 : decode cX12_roading 113 = .ok (.ifCond .le 4, 3) := dk_i kdX12_roading_109 2 rfl
theorem dX12_roading_116 : decode cX12_roading 116 = .ok (.return_, 1) := dk_i kdX12_roading_109 3 rfl
theorem dX12_roading_117 : decode cX12_roading 117 = .ok (.aload_n 0, 1) := dk_i kdX12_roading_109 4 rfl
theorem dX12_roading_118 : decode cX12_roading 118 = .ok (.getfield 72, 3) := dk_i kdX12_roading_109 5 rfl
theorem dX12_roading_121 : decode cX12_roading 121 = .ok (.aload_n 0, 1) := dk_i kdX12_roading_109 6 rfl
theorem dX12_roading_122 : decode cX12_roading 122 = .ok (.aload_n 0, 1) := dk_i kdX12_roading_109 7 rfl
theorem dX12_roading_123 : decode cX12_roading 123 = .ok (.getfield 115, 3) := dk_i kdX12_roading_109 8 rfl
theorem dX12_roading_126 : decode cX12_roading 126 = .ok (.iload_n 1, 1) := dk_i kdX12_roading_109 9 rfl
theorem dX12_roading_127 : decode cX12_roading 127 = .ok (.iload_n 3, 1) := dk_i kdX12_roading_109 10 rfl
theorem dX12_roading_128 : decode cX12_roading 128 = .ok (.invokevirtual 369, 3) := dk_i kdX12_roading_109 11 rfl
theorem dX12_roading_131 : decode cX12_roading 131 = .ok (.iload 4, 2) := dk_i kdX12_roading_109 12 rfl
theorem dX12_roading_133 : decode cX12_roading 133 = .ok (.iastore, 1) := dk_i kdX12_roading_109 13 rfl
theorem dX12_roading_134 : decode cX12_roading 134 = .ok (.aload_n 0, 1) := dk_i kdX12_roading_109 14 rfl
theorem dX12_roading_135 : decode cX12_roading 135 = .ok (.getfield 72, 3) := dk_i kdX12_roading_109 15 rfl
def ldX12_roading_138 : List (Nat × ClassFile.Instr × Nat) := [(138, .aload_n 0, 1), (139, .aload_n 0, 1), (140, .getfield 115, 3), (143, .iload_n 3, 1), (144, .iload_n 1, 1), (145, .invokevirtual 369, 3), (148, .iload 4, 2), (150, .iastore, 1), (151, .aload_n 0, 1), (152, .getfield 69, 3), (155, .aload_n 0, 1), (156, .getfield 115, 3), (159, .dup2, 1), (160, .iaload, 1), (161, .iconst 1, 1), (162, .iadd, 1)]
theorem kdX12_roading_138 : dkO cX12_roading 138 ldX12_roading_138 = true := by decide +kernel
theorem dX12_roading_138 : decode cX12_roading 138 = .ok (.aload_n 0, 1) := dk_i kdX12_roading_138 0 rfl
theorem dX12_roading_139 : decode cX12_roading 139 = .ok (.aload_n 0, 1) := dk_i kdX12_roading_138 1 rfl
theorem dX12_roading_140 : decode cX12_roading 140 = .ok (.getfield 115, 3) := dk_i kdX12_roading_138 2 rfl
theorem dX12_roading_143 : decode cX12_roading 143 = .ok (.iload_n 3, 1) := dk_i kdX12_roading_138 3 rfl
theorem dX12_roading_144 : decode cX12_roading 144 = .ok (.iload_n 1, 1) := dk_i kdX12_roading_138 4 rfl
theorem dX12_roading_145 : decode cX12_roading 145 = .ok (.invokevirtual 369, 3) := dk_i kdX12_roading_138 5 rfl
theorem dX12_roading_148 : decode cX12_roading 148 = .ok (.iload 4, 2) := dk_i kdX12_roading_138 6 rfl
theorem dX12_roading_150 : decode cX12_roading 150 = .ok (.iastore, 1) := dk_i kdX12_roading_138 7 rfl
theorem dX12_roading_151 : decode cX12_roading 151 = .ok (.aload_n 0, 1) := dk_i kdX12_roading_138 8 rfl
theorem dX12_roading_152 : decode cX12_roading 152 = .ok (.getfield 69, 3) := dk_i kdX12_roading_138 9 rfl
theorem dX12_roading_155 : decode cX12_roading 155 = .ok (.aload_n 0, 1) := dk_i kdX12_roading_138 10 rfl
theorem dX12_roading_156 : decode cX12_roading 156 = .ok (.getfield 115, 3) := dk_i kdX12_roading_138 11 rfl
theorem dX12_roading_159 : decode cX12_roading 159 = .ok (.dup2, 1) := dk_i kdX12_roading_138 12 rfl
theorem dX12_roading_160 : decode cX12_roading 160 = .ok (.iaload, 1) := dk_i kdX12_roading_138 13 rfl
theorem dX12_roading_161 : decode cX12_roading 161 = .ok (.iconst 1, 1) := dk_i kdX12_roading_138 14 rfl
theorem dX12_roading_162 : decode cX12_roading 162 = .ok (.iadd, 1) := dk_i kdX12_roading_138 15 rfl
def ldX12_roading_163 : List (Nat × ClassFile.Instr × Nat) := [(163, .iastore, 1), (164, .return_, 1)]
theorem kdX12_roading_163 : dkO cX12_roading 163 ldX12_roading_163 = true := by decide +kernel
theorem dX12_roading_163 : decode cX12_roading 163 = .ok (.iastore, 1) := dk_i kdX12_roading_163 0 rfl
theorem dX12_roading_164 : decode cX12_roading 164 = .ok (.return_, 1) := dk_i kdX12_roading_163 1 rfl
def ldX12_palming_0 : List (Nat × ClassFile.Instr × Nat) := [(0, .aload_n 0, 1), (1, .iconst 0, 1), (2, .invokevirtual 351, 3), (5, .ifCond .ne 4, 3), (8, .return_, 1), (9, .iconst 0, 1), (10, .istore_n 1, 1), (11, .iconst 0, 1), (12, .istore_n 2, 1), (13, .iload_n 2, 1), (14, .aload_n 0, 1), (15, .getfield 63, 3), (18, .aload_n 0, 1), (19, .getfield 115, 3), (22, .iaload, 1), (23, .if_icmp .ge 36, 3)]
theorem kdX12_palming_0 : dkO cX12_palming 0 ldX12_palming_0 = true := by decide +kernel
theorem dX12_palming_0 : decode cX12_palming 0 = .ok (.aload_n 0, 1) := dk_i kdX12_palming_0 0 rfl
theorem dX12_palming_1 : decode cX12_palming 1 = .ok (.iconst 0, 1) := dk_i kdX12_palming_0 1 rfl
theorem dX12_palming_2 : decode cX12_palming 2 = .ok (.invokevirtual 351, 3) := dk_i kdX12_palming_0 2 rfl
theorem dX12_palming_5 : decode cX12_palming 5 = .ok (.ifCond .ne 4, 3) := dk_i kdX12_palming_0 3 rfl
theorem dX12_palming_8 : decode cX12_palming 8 = .ok (.return_, 1) := dk_i kdX12_palming_0 4 rfl
theorem dX12_palming_9 : decode cX12_palming 9 = .ok (.iconst 0, 1) := dk_i kdX12_palming_0 5 rfl
theorem dX12_palming_10 : decode cX12_palming 10 = .ok (.istore_n 1, 1) := dk_i kdX12_palming_0 6 rfl
theorem dX12_palming_11 : decode cX12_palming 11 = .ok (.iconst 0, 1) := dk_i kdX12_palming_0 7 rfl
theorem dX12_palming_12 : decode cX12_palming 12 = .ok (.istore_n 2, 1) := dk_i kdX12_palming_0 8 rfl
theorem dX12_palming_13 : decode cX12_palming 13 = .ok (.iload_n 2, 1) := dk_i kdX12_palming_0 9 rfl
theorem dX12_palming_14 : decode cX12_palming 14 = .ok (.aload_n 0, 1) := dk_i kdX12_palming_0 10 rfl
theorem dX12_palming_15 : decode cX12_palming 15 = .ok (.getfield 63, 3) := dk_i kdX12_palming_0 11 rfl
theorem dX12_palming_18 : decode cX12_palming 18 = .ok (.aload_n 0, 1) := dk_i kdX12_palming_0 12 rfl
theorem dX12_palming_19 : decode cX12_palming 19 = .ok (.getfield 115, 3) := dk_i kdX12_palming_0 13 rfl
theorem dX12_palming_22 : decode cX12_palming 22 = .ok (.iaload, 1) := dk_i kdX12_palming_0 14 rfl
theorem dX12_palming_23 : decode cX12_palming 23 = .ok (.if_icmp .ge 36, 3) := dk_i kdX12_palming_0 15 rfl
def ldX12_palming_26 : List (Nat × ClassFile.Instr × Nat) := [(26, .iload_n 1, 1), (27, .aload_n 0, 1), (28, .getfield 66, 3), (31, .iconst 5, 1), (32, .aload_n 0, 1), (33, .getfield 115, 3), (36, .imul, 1), (37, .iload_n 2, 1), (38, .iadd, 1), (39, .iaload, 1), (40, .iconst (-1), 1), (41, .if_icmp .eq 9, 3), (44, .iconst 1, 1), (45, .iload_n 2, 1), (46, .ishl, 1), (47, .goto 4, 3)]
theorem kdX12_palming_26 : dkO cX12_palming 26 ldX12_palming_26 = true := by decide +kernel
theorem dX12_palming_26 : decode cX12_palming 26 = .ok (.iload_n 1, 1) := dk_i kdX12_palming_26 0 rfl
theorem dX12_palming_27 : decode cX12_palming 27 = .ok (.aload_n 0, 1) := dk_i kdX12_palming_26 1 rfl
theorem dX12_palming_28 : decode cX12_palming 28 = .ok (.getfield 66, 3) := dk_i kdX12_palming_26 2 rfl
theorem dX12_palming_31 : decode cX12_palming 31 = .ok (.iconst 5, 1) := dk_i kdX12_palming_26 3 rfl
theorem dX12_palming_32 : decode cX12_palming 32 = .ok (.aload_n 0, 1) := dk_i kdX12_palming_26 4 rfl
theorem dX12_palming_33 : decode cX12_palming 33 = .ok (.getfield 115, 3) := dk_i kdX12_palming_26 5 rfl
theorem dX12_palming_36 : decode cX12_palming 36 = .ok (.imul, 1) := dk_i kdX12_palming_26 6 rfl
theorem dX12_palming_37 : decode cX12_palming 37 = .ok (.iload_n 2, 1) := dk_i kdX12_palming_26 7 rfl
theorem dX12_palming_38 : decode cX12_palming 38 = .ok (.iadd, 1) := dk_i kdX12_palming_26 8 rfl
theorem dX12_palming_39 : decode cX12_palming 39 = .ok (.iaload, 1) := dk_i kdX12_palming_26 9 rfl
theorem dX12_palming_40 : decode cX12_palming 40 = .ok (.iconst (-1), 1) := dk_i kdX12_palming_26 10 rfl
theorem dX12_palming_41 : decode cX12_palming 41 = .ok (.if_icmp .eq 9, 3) := dk_i kdX12_palming_26 11 rfl
theorem dX12_palming_44 : decode cX12_palming 44 = .ok (.iconst 1, 1) := dk_i kdX12_palming_26 12 rfl
theorem dX12_palming_45 : decode cX12_palming 45 = .ok (.iload_n 2, 1) := dk_i kdX12_palming_26 13 rfl
theorem dX12_palming_46 : decode cX12_palming 46 = .ok (.ishl, 1) := dk_i kdX12_palming_26 14 rfl
theorem dX12_palming_47 : decode cX12_palming 47 = .ok (.goto 4, 3) := dk_i kdX12_palming_26 15 rfl
def ldX12_palming_50 : List (Nat × ClassFile.Instr × Nat) := [(50, .iconst 0, 1), (51, .ior, 1), (52, .istore_n 1, 1), (53, .iinc 2 1, 3), (56, .goto (-43), 3), (59, .aload_n 0, 1), (60, .iconst 1, 1), (61, .iload_n 1, 1), (62, .invokevirtual 366, 3), (65, .istore_n 2, 1), (66, .aload_n 0, 1), (67, .ldc2_w 263, 3), (70, .invokevirtual 359, 3), (73, .aload_n 0, 1), (74, .iconst 0, 1), (75, .iconst 0, 1)]
theorem kdX12_palming_50 : dkO cX12_palming 50 ldX12_palming_50 = true := by decide +kernel
theorem dX12_palming_50 : decode cX12_palming 50 = .ok (.iconst 0, 1) := dk_i kdX12_palming_50 0 rfl
theorem dX12_palming_51 : decode cX12_palming 51 = .ok (.ior, 1) := dk_i kdX12_palming_50 1 rfl
theorem dX12_palming_52 : decode cX12_palming 52 = .ok (.istore_n 1, 1) := dk_i kdX12_palming_50 2 rfl
theorem dX12_palming_53 : decode cX12_palming 53 = .ok (.iinc 2 1, 3) := dk_i kdX12_palming_50 3 rfl
theorem dX12_palming_56 : decode cX12_palming 56 = .ok (.goto (-43), 3) := dk_i kdX12_palming_50 4 rfl
theorem dX12_palming_59 : decode cX12_palming 59 = .ok (.aload_n 0, 1) := dk_i kdX12_palming_50 5 rfl
theorem dX12_palming_60 : decode cX12_palming 60 = .ok (.iconst 1, 1) := dk_i kdX12_palming_50 6 rfl
theorem dX12_palming_61 : decode cX12_palming 61 = .ok (.iload_n 1, 1) := dk_i kdX12_palming_50 7 rfl
theorem dX12_palming_62 : decode cX12_palming 62 = .ok (.invokevirtual 366, 3) := dk_i kdX12_palming_50 8 rfl
theorem dX12_palming_65 : decode cX12_palming 65 = .ok (.istore_n 2, 1) := dk_i kdX12_palming_50 9 rfl
theorem dX12_palming_66 : decode cX12_palming 66 = .ok (.aload_n 0, 1) := dk_i kdX12_palming_50 10 rfl
theorem dX12_palming_67 : decode cX12_palming 67 = .ok (.ldc2_w 263, 3) := dk_i kdX12_palming_50 11 rfl
theorem dX12_palming_70 : decode cX12_palming 70 = .ok (.invokevirtual 359, 3) := dk_i kdX12_palming_50 12 rfl
theorem dX12_palming_73 : decode cX12_palming 73 = .ok (.aload_n 0, 1) := dk_i kdX12_palming_50 13 rfl
theorem dX12_palming_74 : decode cX12_palming 74 = .ok (.iconst 0, 1) := dk_i kdX12_palming_50 14 rfl
theorem dX12_palming_75 : decode cX12_palming 75 = .ok (.iconst 0, 1) := dk_i kdX12_palming_50 15 rfl
def ldX12_palming_76 : List (Nat × ClassFile.Instr × Nat) := [(76, .invokevirtual 366, 3), (79, .istore_n 3, 1), (80, .aload_n 0, 1), (81, .getfield 36, 3), (84, .ifCond .ne 17, 3), (87, .aload_n 0, 1), (88, .getfield 66, 3), (91, .iconst 5, 1), (92, .aload_n 0, 1), (93, .getfield 115, 3), (96, .imul, 1), (97, .iload_n 2, 1), (98, .iadd, 1), (99, .iload_n 3, 1), (100, .iastore, 1), (101, .return_, 1)]
theorem kdX12_palming_76 : dkO cX12_palming 76 ldX12_palming_76 = true := by decide +kernel
theorem dX12_palming_76 : decode cX12_palming 76 = .ok (.invokevirtual 366, 3) := dk_i kdX12_palming_76 0 rfl
theorem dX12_palming_79 : decode cX12_palming 79 = .ok (.istore_n 3, 1) := dk_i kdX12_palming_76 1 rfl
theorem dX12_palming_80 : decode cX12_palming 80 = .ok (.aload_n 0, 1) := dk_i kdX12_palming_76 2 rfl
theorem dX12_palming_81 : decode cX12_palming 81 = .ok (.getfield 36, 3) := dk_i kdX12_palming_76 3 rfl
theorem dX12_palming_84 : decode cX12_palming 84 = .ok (.ifCond .ne 17, 3) := dk_i kdX12_palming_76 4 rfl
theorem dX12_palming_87 : decode cX12_palming 87 = .ok (.aload_n 0, 1) := dk_i kdX12_palming_76 5 rfl
theorem dX12_palming_88 : decode cX12_palming 88 = .ok (.getfield 66, 3) := dk_i kdX12_palming_76 6 rfl
theorem dX12_palming_91 : decode cX12_palming 91 = .ok (.iconst 5, 1) := dk_i kdX12_palming_76 7 rfl
theorem dX12_palming_92 : decode cX12_palming 92 = .ok (.aload_n 0, 1) := dk_i kdX12_palming_76 8 rfl
theorem dX12_palming_93 : decode cX12_palming 93 = .ok (.getfield 115, 3) := dk_i kdX12_palming_76 9 rfl
theorem dX12_palming_96 : decode cX12_palming 96 = .ok (.imul, 1) := dk_i kdX12_palming_76 10 rfl
theorem dX12_palming_97 : decode cX12_palming 97 = .ok (.iload_n 2, 1) := dk_i kdX12_palming_76 11 rfl
theorem dX12_palming_98 : decode cX12_palming 98 = .ok (.iadd, 1) := dk_i kdX12_palming_76 12 rfl
theorem dX12_palming_99 : decode cX12_palming 99 = .ok (.iload_n 3, 1) := dk_i kdX12_palming_76 13 rfl
theorem dX12_palming_100 : decode cX12_palming 100 = .ok (.iastore, 1) := dk_i kdX12_palming_76 14 rfl
theorem dX12_palming_101 : decode cX12_palming 101 = .ok (.return_, 1) := dk_i kdX12_palming_76 15 rfl
def ldX12_doings_0 : List (Nat × ClassFile.Instr × Nat) := [(0, .aload_n 0, 1), (1, .aload_n 0, 1), (2, .getfield 78, 3), (5, .aload_n 0, 1), (6, .getfield 115, 3), (9, .iaload, 1), (10, .bipush 6, 2), (12, .if_icmp .ne 7, 3), (15, .iconst 1, 1), (16, .goto 4, 3), (19, .iconst 0, 1), (20, .invokevirtual 351, 3), (23, .ifCond .ne 4, 3), (26, .return_, 1), (27, .bipush 6, 2), (29, .aload_n 0, 1)]
theorem kdX12_doings_0 : dkO cX12_doings 0 ldX12_doings_0 = true := by decide +kernel
theorem dX12_doings_0 : decode cX12_doings 0 = .ok (.aload_n 0, 1) := dk_i kdX12_doings_0 0 rfl
theorem dX12_doings_1 : decode cX12_doings 1 = .ok (.aload_n 0, 1) := dk_i kdX12_doings_0 1 rfl
theorem dX12_doings_2 : decode cX12_doings 2 = .ok (.getfield 78, 3) := dk_i kdX12_doings_0 2 rfl
theorem dX12_doings_5 : decode cX12_doings 5 = .ok (.aload_n 0, 1) := dk_i kdX12_doings_0 3 rfl
theorem dX12_doings_6 : decode cX12_doings 6 = .ok (.getfield 115, 3) := dk_i kdX12_doings_0 4 rfl
theorem dX12_doings_9 : decode cX12_doings 9 = .ok (.iaload, 1) := dk_i kdX12_doings_0 5 rfl
theorem dX12_doings_10 : decode cX12_doings 10 = .ok (.bipush 6, 2) := dk_i kdX12_doings_0 6 rfl
theorem dX12_doings_12 : decode cX12_doings 12 = .ok (.if_icmp .ne 7, 3) := dk_i kdX12_doings_0 7 rfl
theorem dX12_doings_15 : decode cX12_doings 15 = .ok (.iconst 1, 1) := dk_i kdX12_doings_0 8 rfl
theorem dX12_doings_16 : decode cX12_doings 16 = .ok (.goto 4, 3) := dk_i kdX12_doings_0 9 rfl
theorem dX12_doings_19 : decode cX12_doings 19 = .ok (.iconst 0, 1) := dk_i kdX12_doings_0 10 rfl
theorem dX12_doings_20 : decode cX12_doings 20 = .ok (.invokevirtual 351, 3) := dk_i kdX12_doings_0 11 rfl
theorem dX12_doings_23 : decode cX12_doings 23 = .ok (.ifCond .ne 4, 3) := dk_i kdX12_doings_0 12 rfl
theorem dX12_doings_26 : decode cX12_doings 26 = .ok (.return_, 1) := dk_i kdX12_doings_0 13 rfl
theorem dX12_doings_27 : decode cX12_doings 27 = .ok (.bipush 6, 2) := dk_i kdX12_doings_0 14 rfl
theorem dX12_doings_29 : decode cX12_doings 29 = .ok (.aload_n 0, 1) := dk_i kdX12_doings_0 15 rfl
def ldX12_doings_30 : List (Nat × ClassFile.Instr × Nat) := [(30, .getfield 115, 3), (33, .imul, 1), (34, .aload_n 0, 1), (35, .getfield 78, 3), (38, .aload_n 0, 1), (39, .getfield 115, 3), (42, .iaload, 1), (43, .iadd, 1), (44, .istore_n 1, 1), (45, .aload_n 0, 1), (46, .getfield 109, 3), (49, .iload_n 1, 1), (50, .aload_n 0, 1), (51, .invokevirtual 355, 3), (54, .lastore, 1), (55, .aload_n 0, 1)]
theorem kdX12_doings_30 : dkO cX12_doings 30 ldX12_doings_30 = true := by decide +kernel
theorem dX12_doings_30 : decode cX12_doings 30 = .ok (.getfield 115, 3) := dk_i kdX12_doings_30 0 rfl
theorem dX12_doings_33 : decode cX12_doings 33 = .ok (.imul, 1) := dk_i kdX12_doings_30 1 rfl
theorem dX12_doings_34 : decode cX12_doings 34 = .ok (.aload_n 0, 1) := dk_i kdX12_doings_30 2 rfl
theorem dX12_doings_35 : decode cX12_doings 35 = .ok (.getfield 78, 3) := dk_i kdX12_doings_30 3 rfl
theorem dX12_doings_38 : decode cX12_doings 38 = .ok (.aload_n 0, 1) := dk_i kdX12_doings_30 4 rfl
theorem dX12_doings_39 : decode cX12_doings 39 = .ok (.getfield 115, 3) := dk_i kdX12_doings_30 5 rfl
theorem dX12_doings_42 : decode cX12_doings 42 = .ok (.iaload, 1) := dk_i kdX12_doings_30 6 rfl
theorem dX12_doings_43 : decode cX12_doings 43 = .ok (.iadd, 1) := dk_i kdX12_doings_30 7 rfl
theorem dX12_doings_44 : decode cX12_doings 44 = .ok (.istore_n 1, 1) := dk_i kdX12_doings_30 8 rfl
theorem dX12_doings_45 : decode cX12_doings 45 = .ok (.aload_n 0, 1) := dk_i kdX12_doings_30 9 rfl
theorem dX12_doings_46 : decode cX12_doings 46 = .ok (.getfield 109, 3) := dk_i kdX12_doings_30 10 rfl
theorem dX12_doings_49 : decode cX12_doings 49 = .ok (.iload_n 1, 1) := dk_i kdX12_doings_30 11 rfl
theorem dX12_doings_50 : decode cX12_doings 50 = .ok (.aload_n 0, 1) := dk_i kdX12_doings_30 12 rfl
theorem dX12_doings_51 : decode cX12_doings 51 = .ok (.invokevirtual 355, 3) := dk_i kdX12_doings_30 13 rfl
theorem dX12_doings_54 : decode cX12_doings 54 = .ok (.lastore, 1) := dk_i kdX12_doings_30 14 rfl
theorem dX12_doings_55 : decode cX12_doings 55 = .ok (.aload_n 0, 1) := dk_i kdX12_doings_30 15 rfl
def ldX12_doings_56 : List (Nat × ClassFile.Instr × Nat) := [(56, .ldc2_w 267, 3), (59, .invokevirtual 359, 3), (62, .aload_n 0, 1), (63, .getfield 81, 3), (66, .iload_n 1, 1), (67, .aload_n 0, 1), (68, .iconst 1, 1), (69, .iconst 0, 1), (70, .invokevirtual 366, 3), (73, .iastore, 1), (74, .aload_n 0, 1), (75, .ldc2_w 269, 3), (78, .invokevirtual 359, 3), (81, .aload_n 0, 1), (82, .getfield 84, 3), (85, .iload_n 1, 1)]
theorem kdX12_doings_56 : dkO cX12_doings 56 ldX12_doings_56 = true := by decide +kernel
theorem dX12_doings_56 : decode cX12_doings 56 = .ok (.ldc2_w 267, 3) := dk_i kdX12_doings_56 0 rfl
theorem dX12_doings_59 : decode cX12_doings 59 = .ok (.invokevirtual 359, 3) := dk_i kdX12_doings_56 1 rfl
theorem dX12_doings_62 : decode cX12_doings 62 = .ok (.aload_n 0, 1) := dk_i kdX12_doings_56 2 rfl
theorem dX12_doings_63 : decode cX12_doings 63 = .ok (.getfield 81, 3) := dk_i kdX12_doings_56 3 rfl
theorem dX12_doings_66 : decode cX12_doings 66 = .ok (.iload_n 1, 1) := dk_i kdX12_doings_56 4 rfl
theorem dX12_doings_67 : decode cX12_doings 67 = .ok (.aload_n 0, 1) := dk_i kdX12_doings_56 5 rfl
theorem dX12_doings_68 : decode cX12_doings 68 = .ok (.iconst 1, 1) := dk_i kdX12_doings_56 6 rfl
theorem dX12_doings_69 : decode cX12_doings 69 = .ok (.iconst 0, 1) := dk_i kdX12_doings_56 7 rfl
theorem dX12_doings_70 : decode cX12_doings 70 = .ok (.invokevirtual 366, 3) := dk_i kdX12_doings_56 8 rfl
theorem dX12_doings_73 : decode cX12_doings 73 = .ok (.iastore, 1) := dk_i kdX12_doings_56 9 rfl
theorem dX12_doings_74 : decode cX12_doings 74 = .ok (.aload_n 0, 1) := dk_i kdX12_doings_56 10 rfl
theorem dX12_doings_75 : decode cX12_doings 75 = .ok (.ldc2_w 269, 3) := dk_i kdX12_doings_56 11 rfl
theorem dX12_doings_78 : decode cX12_doings 78 = .ok (.invokevirtual 359, 3) := dk_i kdX12_doings_56 12 rfl
theorem dX12_doings_81 : decode cX12_doings 81 = .ok (.aload_n 0, 1) := dk_i kdX12_doings_56 13 rfl
theorem dX12_doings_82 : decode cX12_doings 82 = .ok (.getfield 84, 3) := dk_i kdX12_doings_56 14 rfl
theorem dX12_doings_85 : decode cX12_doings 85 = .ok (.iload_n 1, 1) := dk_i kdX12_doings_56 15 rfl
def ldX12_doings_86 : List (Nat × ClassFile.Instr × Nat) := [(86, .aload_n 0, 1), (87, .iconst 0, 1), (88, .bipush 23, 2), (90, .invokevirtual 363, 3), (93, .iastore, 1), (94, .aload_n 0, 1), (95, .getfield 36, 3), (98, .ifCond .ne 16, 3), (101, .aload_n 0, 1), (102, .getfield 78, 3), (105, .aload_n 0, 1), (106, .getfield 115, 3), (109, .dup2, 1), (110, .iaload, 1), (111, .iconst 1, 1), (112, .iadd, 1)]
theorem kdX12_doings_86 : dkO cX12_doings 86 ldX12_doings_86 = true := by decide +kernel
theorem dX12_doings_86 : decode cX12_doings 86 = .ok (.aload_n 0, 1) := dk_i kdX12_doings_86 0 rfl
theorem dX12_doings_87 : decode cX12_doings 87 = .ok (.iconst 0, 1) := dk_i kdX12_doings_86 1 rfl
theorem dX12_doings_88 : decode cX12_doings 88 = .ok (.bipush 23, 2) := dk_i kdX12_doings_86 2 rfl
theorem dX12_doings_90 : decode cX12_doings 90 = .ok (.invokevirtual 363, 3) := dk_i kdX12_doings_86 3 rfl
theorem dX12_doings_93 : decode cX12_doings 93 = .ok (.iastore, 1) := dk_i kdX12_doings_86 4 rfl
theorem dX12_doings_94 : decode cX12_doings 94 = .ok (.aload_n 0, 1) := dk_i kdX12_doings_86 5 rfl
theorem dX12_doings_95 : decode cX12_doings 95 = .ok (.getfield 36, 3) := dk_i kdX12_doings_86 6 rfl
theorem dX12_doings_98 : decode cX12_doings 98 = .ok (.ifCond .ne 16, 3) := dk_i kdX12_doings_86 7 rfl
theorem dX12_doings_101 : decode cX12_doings 101 = .ok (.aload_n 0, 1) := dk_i kdX12_doings_86 8 rfl
theorem dX12_doings_102 : decode cX12_doings 102 = .ok (.getfield 78, 3) := dk_i kdX12_doings_86 9 rfl
theorem dX12_doings_105 : decode cX12_doings 105 = .ok (.aload_n 0, 1) := dk_i kdX12_doings_86 10 rfl
theorem dX12_doings_106 : decode cX12_doings 106 = .ok (.getfield 115, 3) := dk_i kdX12_doings_86 11 rfl
theorem dX12_doings_109 : decode cX12_doings 109 = .ok (.dup2, 1) := dk_i kdX12_doings_86 12 rfl
theorem dX12_doings_110 : decode cX12_doings 110 = .ok (.iaload, 1) := dk_i kdX12_doings_86 13 rfl
theorem dX12_doings_111 : decode cX12_doings 111 = .ok (.iconst 1, 1) := dk_i kdX12_doings_86 14 rfl
theorem dX12_doings_112 : decode cX12_doings 112 = .ok (.iadd, 1) := dk_i kdX12_doings_86 15 rfl
def ldX12_doings_113 : List (Nat × ClassFile.Instr × Nat) := [(113, .iastore, 1), (114, .return_, 1)]
theorem kdX12_doings_113 : dkO cX12_doings 113 ldX12_doings_113 = true := by decide +kernel
theorem dX12_doings_113 : decode cX12_doings 113 = .ok (.iastore, 1) := dk_i kdX12_doings_113 0 rfl
theorem dX12_doings_114 : decode cX12_doings 114 = .ok (.return_, 1) := dk_i kdX12_doings_113 1 rfl
def ldX12_reading_0 : List (Nat × ClassFile.Instr × Nat) := [(0, .iconst 2, 1), (1, .aload_n 0, 1), (2, .getfield 115, 3), (5, .imul, 1), (6, .iload_n 1, 1), (7, .iadd, 1), (8, .istore_n 2, 1), (9, .aload_n 0, 1), (10, .aload_n 0, 1), (11, .getfield 90, 3), (14, .iload_n 2, 1), (15, .iaload, 1), (16, .iconst (-1), 1), (17, .if_icmp .eq 7, 3), (20, .iconst 1, 1), (21, .goto 4, 3)]
theorem kdX12_reading_0 : dkO cX12_reading 0 ldX12_reading_0 = true := by decide +kernel
theorem dX12_reading_0 : decode cX12_reading 0 = .ok (.iconst 2, 1) := dk_i kdX12_reading_0 0 rfl
theorem dX12_reading_1 : decode cX12_reading 1 = .ok (.aload_n 0, 1) := dk_i kdX12_reading_0 1 rfl
theorem dX12_reading_2 : decode cX12_reading 2 = .ok (.getfield 115, 3) := dk_i kdX12_reading_0 2 rfl
theorem dX12_reading_5 : decode cX12_reading 5 = .ok (.imul, 1) := dk_i kdX12_reading_0 3 rfl
theorem dX12_reading_6 : decode cX12_reading 6 = .ok (.iload_n 1, 1) := dk_i kdX12_reading_0 4 rfl
theorem dX12_reading_7 : decode cX12_reading 7 = .ok (.iadd, 1) := dk_i kdX12_reading_0 5 rfl
theorem dX12_reading_8 : decode cX12_reading 8 = .ok (.istore_n 2, 1) := dk_i kdX12_reading_0 6 rfl
theorem dX12_reading_9 : decode cX12_reading 9 = .ok (.aload_n 0, 1) := dk_i kdX12_reading_0 7 rfl
theorem dX12_reading_10 : decode cX12_reading 10 = .ok (.aload_n 0, 1) := dk_i kdX12_reading_0 8 rfl
theorem dX12_reading_11 : decode cX12_reading 11 = .ok (.getfield 90, 3) := dk_i kdX12_reading_0 9 rfl
theorem dX12_reading_14 : decode cX12_reading 14 = .ok (.iload_n 2, 1) := dk_i kdX12_reading_0 10 rfl
theorem dX12_reading_15 : decode cX12_reading 15 = .ok (.iaload, 1) := dk_i kdX12_reading_0 11 rfl
theorem dX12_reading_16 : decode cX12_reading 16 = .ok (.iconst (-1), 1) := dk_i kdX12_reading_0 12 rfl
theorem dX12_reading_17 : decode cX12_reading 17 = .ok (.if_icmp .eq 7, 3) := dk_i kdX12_reading_0 13 rfl
theorem dX12_reading_20 : decode cX12_reading 20 = .ok (.iconst 1, 1) := dk_i kdX12_reading_0 14 rfl
theorem dX12_reading_21 : decode cX12_reading 21 = .ok (.goto 4, 3) := dk_i kdX12_reading_0 15 rfl
def ldX12_reading_24 : List (Nat × ClassFile.Instr × Nat) := [(24, .iconst 0, 1), (25, .invokevirtual 351, 3), (28, .ifCond .ne 4, 3), (31, .return_, 1), (32, .aload_n 0, 1), (33, .iload_n 1, 1), (34, .iconst 1, 1), (35, .if_icmp .ne 7, 3), (38, .iconst 1, 1), (39, .goto 4, 3), (42, .iconst 0, 1), (43, .putfield 118, 3), (46, .aload_n 0, 1), (47, .getfield 90, 3), (50, .iload_n 2, 1), (51, .aload_n 0, 1)]
theorem kdX12_reading_24 : dkO cX12_reading 24 ldX12_reading_24 = true := by decide +kernel
theorem dX12_reading_24 : decode cX12_reading 24 = .ok (.iconst 0, 1) := dk_i kdX12_reading_24 0 rfl
theorem dX12_reading_25 : decode cX12_reading 25 = .ok (.invokevirtual 351, 3) := dk_i kdX12_reading_24 1 rfl
theorem dX12_reading_28 : decode cX12_reading 28 = .ok (.ifCond .ne 4, 3) := dk_i kdX12_reading_24 2 rfl
theorem dX12_reading_31 : decode cX12_reading 31 = .ok (.return_, 1) := dk_i kdX12_reading_24 3 rfl
theorem dX12_reading_32 : decode cX12_reading 32 = .ok (.aload_n 0, 1) := dk_i kdX12_reading_24 4 rfl
theorem dX12_reading_33 : decode cX12_reading 33 = .ok (.iload_n 1, 1) := dk_i kdX12_reading_24 5 rfl
theorem dX12_reading_34 : decode cX12_reading 34 = .ok (.iconst 1, 1) := dk_i kdX12_reading_24 6 rfl
theorem dX12_reading_35 : decode cX12_reading 35 = .ok (.if_icmp .ne 7, 3) := dk_i kdX12_reading_24 7 rfl
theorem dX12_reading_38 : decode cX12_reading 38 = .ok (.iconst 1, 1) := dk_i kdX12_reading_24 8 rfl
theorem dX12_reading_39 : decode cX12_reading 39 = .ok (.goto 4, 3) := dk_i kdX12_reading_24 9 rfl
theorem dX12_reading_42 : decode cX12_reading 42 = .ok (.iconst 0, 1) := dk_i kdX12_reading_24 10 rfl
theorem dX12_reading_43 : decode cX12_reading 43 = .ok (.putfield 118, 3) := dk_i kdX12_reading_24 11 rfl
theorem dX12_reading_46 : decode cX12_reading 46 = .ok (.aload_n 0, 1) := dk_i kdX12_reading_24 12 rfl
theorem dX12_reading_47 : decode cX12_reading 47 = .ok (.getfield 90, 3) := dk_i kdX12_reading_24 13 rfl
theorem dX12_reading_50 : decode cX12_reading 50 = .ok (.iload_n 2, 1) := dk_i kdX12_reading_24 14 rfl
theorem dX12_reading_51 : decode cX12_reading 51 = .ok (.aload_n 0, 1) := dk_i kdX12_reading_24 15 rfl
def ldX12_reading_52 : List (Nat × ClassFile.Instr × Nat) := [(52, .getfield 112, 3), (55, .iastore, 1), (56, .aload_n 0, 1), (57, .iload_n 1, 1), (58, .iconst 1, 1), (59, .if_icmp .ne 7, 3), (62, .iconst 1, 1), (63, .goto 4, 3), (66, .iconst 0, 1), (67, .invokevirtual 373, 3), (70, .aload_n 0, 1), (71, .getfield 93, 3), (74, .iload_n 2, 1), (75, .aload_n 0, 1), (76, .getfield 112, 3), (79, .iastore, 1)]
theorem kdX12_reading_52 : dkO cX12_reading 52 ldX12_reading_52 = true := by decide +kernel
theorem dX12_reading_52 : decode cX12_reading 52 = .ok (.getfield 112, 3) := dk_i kdX12_reading_52 0 rfl
theorem dX12_reading_55 : decode cX12_reading 55 = .ok (.iastore, 1) := dk_i kdX12_reading_52 1 rfl
theorem dX12_reading_56 : decode cX12_reading 56 = .ok (.aload_n 0, 1) := dk_i kdX12_reading_52 2 rfl
theorem dX12_reading_57 : decode cX12_reading 57 = .ok (.iload_n 1, 1) := dk_i kdX12_reading_52 3 rfl
theorem dX12_reading_58 : decode cX12_reading 58 = .ok (.iconst 1, 1) := dk_i kdX12_reading_52 4 rfl
theorem dX12_reading_59 : decode cX12_reading 59 = .ok (.if_icmp .ne 7, 3) := dk_i kdX12_reading_52 5 rfl
theorem dX12_reading_62 : decode cX12_reading 62 = .ok (.iconst 1, 1) := dk_i kdX12_reading_52 6 rfl
theorem dX12_reading_63 : decode cX12_reading 63 = .ok (.goto 4, 3) := dk_i kdX12_reading_52 7 rfl
theorem dX12_reading_66 : decode cX12_reading 66 = .ok (.iconst 0, 1) := dk_i kdX12_reading_52 8 rfl
theorem dX12_reading_67 : decode cX12_reading 67 = .ok (.invokevirtual 373, 3) := dk_i kdX12_reading_52 9 rfl
theorem dX12_reading_70 : decode cX12_reading 70 = .ok (.aload_n 0, 1) := dk_i kdX12_reading_52 10 rfl
theorem dX12_reading_71 : decode cX12_reading 71 = .ok (.getfield 93, 3) := dk_i kdX12_reading_52 11 rfl
theorem dX12_reading_74 : decode cX12_reading 74 = .ok (.iload_n 2, 1) := dk_i kdX12_reading_52 12 rfl
theorem dX12_reading_75 : decode cX12_reading 75 = .ok (.aload_n 0, 1) := dk_i kdX12_reading_52 13 rfl
theorem dX12_reading_76 : decode cX12_reading 76 = .ok (.getfield 112, 3) := dk_i kdX12_reading_52 14 rfl
theorem dX12_reading_79 : decode cX12_reading 79 = .ok (.iastore, 1) := dk_i kdX12_reading_52 15 rfl
def ldX12_reading_80 : List (Nat × ClassFile.Instr × Nat) := [(80, .return_, 1)]
theorem kdX12_reading_80 : dkO cX12_reading 80 ldX12_reading_80 = true := by decide +kernel
theorem dX12_reading_80 : decode cX12_reading 80 = .ok (.return_, 1) := dk_i kdX12_reading_80 0 rfl
def ldX12_passing_0 : List (Nat × ClassFile.Instr × Nat) := [(0, .aload_n 0, 1), (1, .iconst 0, 1), (2, .invokevirtual 351, 3), (5, .ifCond .ne 4, 3), (8, .return_, 1), (9, .aload_n 0, 1), (10, .iconst 0, 1), (11, .bipush 100, 2), (13, .invokevirtual 363, 3), (16, .istore_n 1, 1), (17, .aload_n 0, 1), (18, .getfield 36, 3), (21, .ifCond .ne 13, 3), (24, .aload_n 0, 1), (25, .getfield 87, 3), (28, .aload_n 0, 1)]
theorem kdX12_passing_0 : dkO cX12_passing 0 ldX12_passing_0 = true := by decide +kernel
theorem dX12_passing_0 : decode cX12_passing 0 = .ok (.aload_n 0, 1) := dk_i kdX12_passing_0 0 rfl
theorem dX12_passing_1 : decode cX12_passing 1 = .ok (.iconst 0, 1) := dk_i kdX12_passing_0 1 rfl
theorem dX12_passing_2 : decode cX12_passing 2 = .ok (.invokevirtual 351, 3) := dk_i kdX12_passing_0 2 rfl
theorem dX12_passing_5 : decode cX12_passing 5 = .ok (.ifCond .ne 4, 3) := dk_i kdX12_passing_0 3 rfl
theorem dX12_passing_8 : decode cX12_passing 8 = .ok (.return_, 1) := dk_i kdX12_passing_0 4 rfl
theorem dX12_passing_9 : decode cX12_passing 9 = .ok (.aload_n 0, 1) := dk_i kdX12_passing_0 5 rfl
theorem dX12_passing_10 : decode cX12_passing 10 = .ok (.iconst 0, 1) := dk_i kdX12_passing_0 6 rfl
theorem dX12_passing_11 : decode cX12_passing 11 = .ok (.bipush 100, 2) := dk_i kdX12_passing_0 7 rfl
theorem dX12_passing_13 : decode cX12_passing 13 = .ok (.invokevirtual 363, 3) := dk_i kdX12_passing_0 8 rfl
theorem dX12_passing_16 : decode cX12_passing 16 = .ok (.istore_n 1, 1) := dk_i kdX12_passing_0 9 rfl
theorem dX12_passing_17 : decode cX12_passing 17 = .ok (.aload_n 0, 1) := dk_i kdX12_passing_0 10 rfl
theorem dX12_passing_18 : decode cX12_passing 18 = .ok (.getfield 36, 3) := dk_i kdX12_passing_0 11 rfl
theorem dX12_passing_21 : decode cX12_passing 21 = .ok (.ifCond .ne 13, 3) := dk_i kdX12_passing_0 12 rfl
theorem dX12_passing_24 : decode cX12_passing 24 = .ok (.aload_n 0, 1) := dk_i kdX12_passing_0 13 rfl
theorem dX12_passing_25 : decode cX12_passing 25 = .ok (.getfield 87, 3) := dk_i kdX12_passing_0 14 rfl
theorem dX12_passing_28 : decode cX12_passing 28 = .ok (.aload_n 0, 1) := dk_i kdX12_passing_0 15 rfl
def ldX12_passing_29 : List (Nat × ClassFile.Instr × Nat) := [(29, .getfield 115, 3), (32, .iload_n 1, 1), (33, .iastore, 1), (34, .return_, 1)]
theorem kdX12_passing_29 : dkO cX12_passing 29 ldX12_passing_29 = true := by decide +kernel
theorem dX12_passing_29 : decode cX12_passing 29 = .ok (.getfield 115, 3) := dk_i kdX12_passing_29 0 rfl
theorem dX12_passing_32 : decode cX12_passing 32 = .ok (.iload_n 1, 1) := dk_i kdX12_passing_29 1 rfl
theorem dX12_passing_33 : decode cX12_passing 33 = .ok (.iastore, 1) := dk_i kdX12_passing_29 2 rfl
theorem dX12_passing_34 : decode cX12_passing 34 = .ok (.return_, 1) := dk_i kdX12_passing_29 3 rfl
def ldX12_statement_0 : List (Nat × ClassFile.Instr × Nat) := [(0, .aload_n 0, 1), (1, .invokevirtual 238, 3), (4, .aload_n 0, 1), (5, .getfield 36, 3), (8, .ifCond .le 4, 3), (11, .return_, 1), (12, .aload_n 0, 1), (13, .ldc2_w 247, 3), (16, .invokevirtual 321, 3), (19, .ifCond .eq 10, 3), (22, .aload_n 0, 1), (23, .invokevirtual 377, 3), (26, .goto 133, 3), (29, .aload_n 0, 1), (30, .ldc2_w 253, 3), (33, .invokevirtual 321, 3)]
theorem kdX12_statement_0 : dkO cX12_statement 0 ldX12_statement_0 = true := by decide +kernel
theorem dX12_statement_0 : decode cX12_statement 0 = .ok (.aload_n 0, 1) := dk_i kdX12_statement_0 0 rfl
theorem dX12_statement_1 : decode cX12_statement 1 = .ok (.invokevirtual 238, 3) := dk_i kdX12_statement_0 1 rfl
theorem dX12_statement_4 : decode cX12_statement 4 = .ok (.aload_n 0, 1) := dk_i kdX12_statement_0 2 rfl
theorem dX12_statement_5 : decode cX12_statement 5 = .ok (.getfield 36, 3) := dk_i kdX12_statement_0 3 rfl
theorem dX12_statement_8 : decode cX12_statement 8 = .ok (.ifCond .le 4, 3) := dk_i kdX12_statement_0 4 rfl
theorem dX12_statement_11 : decode cX12_statement 11 = .ok (.return_, 1) := dk_i kdX12_statement_0 5 rfl
theorem dX12_statement_12 : decode cX12_statement 12 = .ok (.aload_n 0, 1) := dk_i kdX12_statement_0 6 rfl
theorem dX12_statement_13 : decode cX12_statement 13 = .ok (.ldc2_w 247, 3) := dk_i kdX12_statement_0 7 rfl
theorem dX12_statement_16 : decode cX12_statement 16 = .ok (.invokevirtual 321, 3) := dk_i kdX12_statement_0 8 rfl
theorem dX12_statement_19 : decode cX12_statement 19 = .ok (.ifCond .eq 10, 3) := dk_i kdX12_statement_0 9 rfl
theorem dX12_statement_22 : decode cX12_statement 22 = .ok (.aload_n 0, 1) := dk_i kdX12_statement_0 10 rfl
theorem dX12_statement_23 : decode cX12_statement 23 = .ok (.invokevirtual 377, 3) := dk_i kdX12_statement_0 11 rfl
theorem dX12_statement_26 : decode cX12_statement 26 = .ok (.goto 133, 3) := dk_i kdX12_statement_0 12 rfl
theorem dX12_statement_29 : decode cX12_statement 29 = .ok (.aload_n 0, 1) := dk_i kdX12_statement_0 13 rfl
theorem dX12_statement_30 : decode cX12_statement 30 = .ok (.ldc2_w 253, 3) := dk_i kdX12_statement_0 14 rfl
theorem dX12_statement_33 : decode cX12_statement 33 = .ok (.invokevirtual 321, 3) := dk_i kdX12_statement_0 15 rfl
def ldX12_statement_36 : List (Nat × ClassFile.Instr × Nat) := [(36, .ifCond .eq 10, 3), (39, .aload_n 0, 1), (40, .invokevirtual 380, 3), (43, .goto 116, 3), (46, .aload_n 0, 1), (47, .ldc2_w 255, 3), (50, .invokevirtual 321, 3), (53, .ifCond .eq 10, 3), (56, .aload_n 0, 1), (57, .invokevirtual 383, 3), (60, .goto 99, 3), (63, .aload_n 0, 1), (64, .ldc2_w 261, 3), (67, .invokevirtual 321, 3), (70, .ifCond .eq 10, 3), (73, .aload_n 0, 1)]
theorem kdX12_statement_36 : dkO cX12_statement 36 ldX12_statement_36 = true := by decide +kernel
theorem dX12_statement_36 : decode cX12_statement 36 = .ok (.ifCond .eq 10, 3) := dk_i kdX12_statement_36 0 rfl
theorem dX12_statement_39 : decode cX12_statement 39 = .ok (.aload_n 0, 1) := dk_i kdX12_statement_36 1 rfl
theorem dX12_statement_40 : decode cX12_statement 40 = .ok (.invokevirtual 380, 3) := dk_i kdX12_statement_36 2 rfl
theorem dX12_statement_43 : decode cX12_statement 43 = .ok (.goto 116, 3) := dk_i kdX12_statement_36 3 rfl
theorem dX12_statement_46 : decode cX12_statement 46 = .ok (.aload_n 0, 1) := dk_i kdX12_statement_36 4 rfl
theorem dX12_statement_47 : decode cX12_statement 47 = .ok (.ldc2_w 255, 3) := dk_i kdX12_statement_36 5 rfl
theorem dX12_statement_50 : decode cX12_statement 50 = .ok (.invokevirtual 321, 3) := dk_i kdX12_statement_36 6 rfl
theorem dX12_statement_53 : decode cX12_statement 53 = .ok (.ifCond .eq 10, 3) := dk_i kdX12_statement_36 7 rfl
theorem dX12_statement_56 : decode cX12_statement 56 = .ok (.aload_n 0, 1) := dk_i kdX12_statement_36 8 rfl
theorem dX12_statement_57 : decode cX12_statement 57 = .ok (.invokevirtual 383, 3) := dk_i kdX12_statement_36 9 rfl
theorem dX12_statement_60 : decode cX12_statement 60 = .ok (.goto 99, 3) := dk_i kdX12_statement_36 10 rfl
theorem dX12_statement_63 : decode cX12_statement 63 = .ok (.aload_n 0, 1) := dk_i kdX12_statement_36 11 rfl
theorem dX12_statement_64 : decode cX12_statement 64 = .ok (.ldc2_w 261, 3) := dk_i kdX12_statement_36 12 rfl
theorem dX12_statement_67 : decode cX12_statement 67 = .ok (.invokevirtual 321, 3) := dk_i kdX12_statement_36 13 rfl
theorem dX12_statement_70 : decode cX12_statement 70 = .ok (.ifCond .eq 10, 3) := dk_i kdX12_statement_36 14 rfl
theorem dX12_statement_73 : decode cX12_statement 73 = .ok (.aload_n 0, 1) := dk_i kdX12_statement_36 15 rfl
def ldX12_statement_74 : List (Nat × ClassFile.Instr × Nat) := [(74, .invokevirtual 386, 3), (77, .goto 82, 3), (80, .aload_n 0, 1), (81, .ldc2_w 265, 3), (84, .invokevirtual 321, 3), (87, .ifCond .eq 10, 3), (90, .aload_n 0, 1), (91, .invokevirtual 389, 3), (94, .goto 65, 3), (97, .aload_n 0, 1), (98, .ldc2_w 271, 3), (101, .invokevirtual 321, 3), (104, .ifCond .eq 11, 3), (107, .aload_n 0, 1), (108, .iconst 0, 1), (109, .invokevirtual 391, 3)]
theorem kdX12_statement_74 : dkO cX12_statement 74 ldX12_statement_74 = true := by decide +kernel
theorem dX12_statement_74 : decode cX12_statement 74 = .ok (.invokevirtual 386, 3) := dk_i kdX12_statement_74 0 rfl
theorem dX12_statement_77 : decode cX12_statement 77 = .ok (.goto 82, 3) := dk_i kdX12_statement_74 1 rfl
theorem dX12_statement_80 : decode cX12_statement 80 = .ok (.aload_n 0, 1) := dk_i kdX12_statement_74 2 rfl
theorem dX12_statement_81 : decode cX12_statement 81 = .ok (.ldc2_w 265, 3) := dk_i kdX12_statement_74 3 rfl
theorem dX12_statement_84 : decode cX12_statement 84 = .ok (.invokevirtual 321, 3) := dk_i kdX12_statement_74 4 rfl
theorem dX12_statement_87 : decode cX12_statement 87 = .ok (.ifCond .eq 10, 3) := dk_i kdX12_statement_74 5 rfl
theorem dX12_statement_90 : decode cX12_statement 90 = .ok (.aload_n 0, 1) := dk_i kdX12_statement_74 6 rfl
theorem dX12_statement_91 : decode cX12_statement 91 = .ok (.invokevirtual 389, 3) := dk_i kdX12_statement_74 7 rfl
theorem dX12_statement_94 : decode cX12_statement 94 = .ok (.goto 65, 3) := dk_i kdX12_statement_74 8 rfl
theorem dX12_statement_97 : decode cX12_statement 97 = .ok (.aload_n 0, 1) := dk_i kdX12_statement_74 9 rfl
theorem dX12_statement_98 : decode cX12_statement 98 = .ok (.ldc2_w 271, 3) := dk_i kdX12_statement_74 10 rfl
theorem dX12_statement_101 : decode cX12_statement 101 = .ok (.invokevirtual 321, 3) := dk_i kdX12_statement_74 11 rfl
theorem dX12_statement_104 : decode cX12_statement 104 = .ok (.ifCond .eq 11, 3) := dk_i kdX12_statement_74 12 rfl
theorem dX12_statement_107 : decode cX12_statement 107 = .ok (.aload_n 0, 1) := dk_i kdX12_statement_74 13 rfl
theorem dX12_statement_108 : decode cX12_statement 108 = .ok (.iconst 0, 1) := dk_i kdX12_statement_74 14 rfl
theorem dX12_statement_109 : decode cX12_statement 109 = .ok (.invokevirtual 391, 3) := dk_i kdX12_statement_74 15 rfl
def ldX12_statement_112 : List (Nat × ClassFile.Instr × Nat) := [(112, .goto 47, 3), (115, .aload_n 0, 1), (116, .ldc2_w 273, 3), (119, .invokevirtual 321, 3), (122, .ifCond .eq 11, 3), (125, .aload_n 0, 1), (126, .iconst 1, 1), (127, .invokevirtual 391, 3), (130, .goto 29, 3), (133, .aload_n 0, 1), (134, .ldc2_w 275, 3), (137, .invokevirtual 321, 3), (140, .ifCond .eq 10, 3), (143, .aload_n 0, 1), (144, .invokevirtual 394, 3), (147, .goto 12, 3)]
theorem kdX12_statement_112 : dkO cX12_statement 112 ldX12_statement_112 = true := by decide +kernel
theorem dX12_statement_112 : decode cX12_statement 112 = .ok (.goto 47, 3) := dk_i kdX12_statement_112 0 rfl
theorem dX12_statement_115 : decode cX12_statement 115 = .ok (.aload_n 0, 1) := dk_i kdX12_statement_112 1 rfl
theorem dX12_statement_116 : decode cX12_statement 116 = .ok (.ldc2_w 273, 3) := dk_i kdX12_statement_112 2 rfl
theorem dX12_statement_119 : decode cX12_statement 119 = .ok (.invokevirtual 321, 3) := dk_i kdX12_statement_112 3 rfl
theorem dX12_statement_122 : decode cX12_statement 122 = .ok (.ifCond .eq 11, 3) := dk_i kdX12_statement_112 4 rfl
theorem dX12_statement_125 : decode cX12_statement 125 = .ok (.aload_n 0, 1) := dk_i kdX12_statement_112 5 rfl
theorem dX12_statement_126 : decode cX12_statement 126 = .ok (.iconst 1, 1) := dk_i kdX12_statement_112 6 rfl
theorem dX12_statement_127 : decode cX12_statement 127 = .ok (.invokevirtual 391, 3) := dk_i kdX12_statement_112 7 rfl
theorem dX12_statement_130 : decode cX12_statement 130 = .ok (.goto 29, 3) := dk_i kdX12_statement_112 8 rfl
theorem dX12_statement_133 : decode cX12_statement 133 = .ok (.aload_n 0, 1) := dk_i kdX12_statement_112 9 rfl
theorem dX12_statement_134 : decode cX12_statement 134 = .ok (.ldc2_w 275, 3) := dk_i kdX12_statement_112 10 rfl
theorem dX12_statement_137 : decode cX12_statement 137 = .ok (.invokevirtual 321, 3) := dk_i kdX12_statement_112 11 rfl
theorem dX12_statement_140 : decode cX12_statement 140 = .ok (.ifCond .eq 10, 3) := dk_i kdX12_statement_112 12 rfl
theorem dX12_statement_143 : decode cX12_statement 143 = .ok (.aload_n 0, 1) := dk_i kdX12_statement_112 13 rfl
theorem dX12_statement_144 : decode cX12_statement 144 = .ok (.invokevirtual 394, 3) := dk_i kdX12_statement_112 14 rfl
theorem dX12_statement_147 : decode cX12_statement 147 = .ok (.goto 12, 3) := dk_i kdX12_statement_112 15 rfl
def ldX12_statement_150 : List (Nat × ClassFile.Instr × Nat) := [(150, .aload_n 0, 1), (151, .iconst 1, 1), (152, .aload_n 0, 1), (153, .getfield 23, 3), (156, .invokevirtual 227, 3), (159, .return_, 1)]
theorem kdX12_statement_150 : dkO cX12_statement 150 ldX12_statement_150 = true := by decide +kernel
theorem dX12_statement_150 : decode cX12_statement 150 = .ok (.aload_n 0, 1) := dk_i kdX12_statement_150 0 rfl
theorem dX12_statement_151 : decode cX12_statement 151 = .ok (.iconst 1, 1) := dk_i kdX12_statement_150 1 rfl
theorem dX12_statement_152 : decode cX12_statement 152 = .ok (.aload_n 0, 1) := dk_i kdX12_statement_150 2 rfl
theorem dX12_statement_153 : decode cX12_statement 153 = .ok (.getfield 23, 3) := dk_i kdX12_statement_150 3 rfl
theorem dX12_statement_156 : decode cX12_statement 156 = .ok (.invokevirtual 227, 3) := dk_i kdX12_statement_150 4 rfl
theorem dX12_statement_159 : decode cX12_statement 159 = .ok (.return_, 1) := dk_i kdX12_statement_150 5 rfl
def ldX12_finishes_0 : List (Nat × ClassFile.Instr × Nat) := [(0, .aload_n 0, 1), (1, .invokevirtual 238, 3), (4, .aload_n 0, 1), (5, .getfield 36, 3), (8, .ifCond .le 4, 3), (11, .return_, 1), (12, .aload_n 0, 1), (13, .getfield 26, 3), (16, .istore_n 2, 1), (17, .iload_n 2, 1), (18, .aload_n 0, 1), (19, .getfield 17, 3), (22, .if_icmp .ge 31, 3), (25, .aload_n 0, 1), (26, .getfield 7, 3), (29, .iload_n 2, 1)]
theorem kdX12_finishes_0 : dkO cX12_finishes 0 ldX12_finishes_0 = true := by decide +kernel
theorem dX12_finishes_0 : decode cX12_finishes 0 = .ok (.aload_n 0, 1) := dk_i kdX12_finishes_0 0 rfl
theorem dX12_finishes_1 : decode cX12_finishes 1 = .ok (.invokevirtual 238, 3) := dk_i kdX12_finishes_0 1 rfl
theorem dX12_finishes_4 : decode cX12_finishes 4 = .ok (.aload_n 0, 1) := dk_i kdX12_finishes_0 2 rfl
theorem dX12_finishes_5 : decode cX12_finishes 5 = .ok (.getfield 36, 3) := dk_i kdX12_finishes_0 3 rfl
theorem dX12_finishes_8 : decode cX12_finishes 8 = .ok (.ifCond .le 4, 3) := dk_i kdX12_finishes_0 4 rfl
theorem dX12_finishes_11 : decode cX12_finishes 11 = .ok (.return_, 1) := dk_i kdX12_finishes_0 5 rfl
theorem dX12_finishes_12 : decode cX12_finishes 12 = .ok (.aload_n 0, 1) := dk_i kdX12_finishes_0 6 rfl
theorem dX12_finishes_13 : decode cX12_finishes 13 = .ok (.getfield 26, 3) := dk_i kdX12_finishes_0 7 rfl
theorem dX12_finishes_16 : decode cX12_finishes 16 = .ok (.istore_n 2, 1) := dk_i kdX12_finishes_0 8 rfl
theorem dX12_finishes_17 : decode cX12_finishes 17 = .ok (.iload_n 2, 1) := dk_i kdX12_finishes_0 9 rfl
theorem dX12_finishes_18 : decode cX12_finishes 18 = .ok (.aload_n 0, 1) := dk_i kdX12_finishes_0 10 rfl
theorem dX12_finishes_19 : decode cX12_finishes 19 = .ok (.getfield 17, 3) := dk_i kdX12_finishes_0 11 rfl
theorem dX12_finishes_22 : decode cX12_finishes 22 = .ok (.if_icmp .ge 31, 3) := dk_i kdX12_finishes_0 12 rfl
theorem dX12_finishes_25 : decode cX12_finishes 25 = .ok (.aload_n 0, 1) := dk_i kdX12_finishes_0 13 rfl
theorem dX12_finishes_26 : decode cX12_finishes 26 = .ok (.getfield 7, 3) := dk_i kdX12_finishes_0 14 rfl
theorem dX12_finishes_29 : decode cX12_finishes 29 = .ok (.iload_n 2, 1) := dk_i kdX12_finishes_0 15 rfl
def ldX12_finishes_30 : List (Nat × ClassFile.Instr × Nat) := [(30, .iaload, 1), (31, .bipush 32, 2), (33, .if_icmp .eq 14, 3), (36, .aload_n 0, 1), (37, .getfield 7, 3), (40, .iload_n 2, 1), (41, .iaload, 1), (42, .bipush 10, 2), (44, .if_icmp .ne 9, 3), (47, .iinc 2 1, 3), (50, .goto (-33), 3), (53, .aload_n 0, 1), (54, .bipush 59, 2), (56, .invokevirtual 241, 3), (59, .ifCond .eq 24, 3), (62, .iload_n 1, 1)]
theorem kdX12_finishes_30 : dkO cX12_finishes 30 ldX12_finishes_30 = true := by decide +kernel
theorem dX12_finishes_30 : decode cX12_finishes 30 = .ok (.iaload, 1) := dk_i kdX12_finishes_30 0 rfl
theorem dX12_finishes_31 : decode cX12_finishes 31 = .ok (.bipush 32, 2) := dk_i kdX12_finishes_30 1 rfl
theorem dX12_finishes_33 : decode cX12_finishes 33 = .ok (.if_icmp .eq 14, 3) := dk_i kdX12_finishes_30 2 rfl
theorem dX12_finishes_36 : decode cX12_finishes 36 = .ok (.aload_n 0, 1) := dk_i kdX12_finishes_30 3 rfl
theorem dX12_finishes_37 : decode cX12_finishes 37 = .ok (.getfield 7, 3) := dk_i kdX12_finishes_30 4 rfl
theorem dX12_finishes_40 : decode cX12_finishes 40 = .ok (.iload_n 2, 1) := dk_i kdX12_finishes_30 5 rfl
theorem dX12_finishes_41 : decode cX12_finishes 41 = .ok (.iaload, 1) := dk_i kdX12_finishes_30 6 rfl
theorem dX12_finishes_42 : decode cX12_finishes 42 = .ok (.bipush 10, 2) := dk_i kdX12_finishes_30 7 rfl
theorem dX12_finishes_44 : decode cX12_finishes 44 = .ok (.if_icmp .ne 9, 3) := dk_i kdX12_finishes_30 8 rfl
theorem dX12_finishes_47 : decode cX12_finishes 47 = .ok (.iinc 2 1, 3) := dk_i kdX12_finishes_30 9 rfl
theorem dX12_finishes_50 : decode cX12_finishes 50 = .ok (.goto (-33), 3) := dk_i kdX12_finishes_30 10 rfl
theorem dX12_finishes_53 : decode cX12_finishes 53 = .ok (.aload_n 0, 1) := dk_i kdX12_finishes_30 11 rfl
theorem dX12_finishes_54 : decode cX12_finishes 54 = .ok (.bipush 59, 2) := dk_i kdX12_finishes_30 12 rfl
theorem dX12_finishes_56 : decode cX12_finishes 56 = .ok (.invokevirtual 241, 3) := dk_i kdX12_finishes_30 13 rfl
theorem dX12_finishes_59 : decode cX12_finishes 59 = .ok (.ifCond .eq 24, 3) := dk_i kdX12_finishes_30 14 rfl
theorem dX12_finishes_62 : decode cX12_finishes 62 = .ok (.iload_n 1, 1) := dk_i kdX12_finishes_30 15 rfl
def ldX12_finishes_63 : List (Nat × ClassFile.Instr × Nat) := [(63, .bipush 80, 2), (65, .if_icmp .ne 18, 3), (68, .iload_n 2, 1), (69, .aload_n 0, 1), (70, .getfield 17, 3), (73, .if_icmp .ge 10, 3), (76, .aload_n 0, 1), (77, .bipush 6, 2), (79, .iload_n 2, 1), (80, .invokevirtual 227, 3), (83, .aload_n 0, 1), (84, .bipush 59, 2), (86, .invokevirtual 397, 3), (89, .return_, 1)]
theorem kdX12_finishes_63 : dkO cX12_finishes 63 ldX12_finishes_63 = true := by decide +kernel
theorem dX12_finishes_63 : decode cX12_finishes 63 = .ok (.bipush 80, 2) := dk_i kdX12_finishes_63 0 rfl
theorem dX12_finishes_65 : decode cX12_finishes 65 = .ok (.if_icmp .ne 18, 3) := dk_i kdX12_finishes_63 1 rfl
theorem dX12_finishes_68 : decode cX12_finishes 68 = .ok (.iload_n 2, 1) := dk_i kdX12_finishes_63 2 rfl
theorem dX12_finishes_69 : decode cX12_finishes 69 = .ok (.aload_n 0, 1) := dk_i kdX12_finishes_63 3 rfl
theorem dX12_finishes_70 : decode cX12_finishes 70 = .ok (.getfield 17, 3) := dk_i kdX12_finishes_63 4 rfl
theorem dX12_finishes_73 : decode cX12_finishes 73 = .ok (.if_icmp .ge 10, 3) := dk_i kdX12_finishes_63 5 rfl
theorem dX12_finishes_76 : decode cX12_finishes 76 = .ok (.aload_n 0, 1) := dk_i kdX12_finishes_63 6 rfl
theorem dX12_finishes_77 : decode cX12_finishes 77 = .ok (.bipush 6, 2) := dk_i kdX12_finishes_63 7 rfl
theorem dX12_finishes_79 : decode cX12_finishes 79 = .ok (.iload_n 2, 1) := dk_i kdX12_finishes_63 8 rfl
theorem dX12_finishes_80 : decode cX12_finishes 80 = .ok (.invokevirtual 227, 3) := dk_i kdX12_finishes_63 9 rfl
theorem dX12_finishes_83 : decode cX12_finishes 83 = .ok (.aload_n 0, 1) := dk_i kdX12_finishes_63 10 rfl
theorem dX12_finishes_84 : decode cX12_finishes 84 = .ok (.bipush 59, 2) := dk_i kdX12_finishes_63 11 rfl
theorem dX12_finishes_86 : decode cX12_finishes 86 = .ok (.invokevirtual 397, 3) := dk_i kdX12_finishes_63 12 rfl
theorem dX12_finishes_89 : decode cX12_finishes 89 = .ok (.return_, 1) := dk_i kdX12_finishes_63 13 rfl
def ldX12_measures_0 : List (Nat × ClassFile.Instr × Nat) := [(0, .iconst 0, 1), (1, .istore_n 1, 1), (2, .iload_n 1, 1), (3, .iconst 5, 1), (4, .if_icmp .ge 85, 3), (7, .iconst 0, 1), (8, .istore_n 2, 1), (9, .iload_n 2, 1), (10, .iconst 5, 1), (11, .if_icmp .ge 72, 3), (14, .aload_n 0, 1), (15, .getfield 75, 3), (18, .aload_n 0, 1), (19, .aload_n 0, 1), (20, .getfield 115, 3), (23, .iload_n 1, 1)]
theorem kdX12_measures_0 : dkO cX12_measures 0 ldX12_measures_0 = true := by decide +kernel
theorem dX12_measures_0 : decode cX12_measures 0 = .ok (.iconst 0, 1) := dk_i kdX12_measures_0 0 rfl
theorem dX12_measures_1 : decode cX12_measures 1 = .ok (.istore_n 1, 1) := dk_i kdX12_measures_0 1 rfl
theorem dX12_measures_2 : decode cX12_measures 2 = .ok (.iload_n 1, 1) := dk_i kdX12_measures_0 2 rfl
theorem dX12_measures_3 : decode cX12_measures 3 = .ok (.iconst 5, 1) := dk_i kdX12_measures_0 3 rfl
theorem dX12_measures_4 : decode cX12_measures 4 = .ok (.if_icmp .ge 85, 3) := dk_i kdX12_measures_0 4 rfl
theorem dX12_measures_7 : decode cX12_measures 7 = .ok (.iconst 0, 1) := dk_i kdX12_measures_0 5 rfl
theorem dX12_measures_8 : decode cX12_measures 8 = .ok (.istore_n 2, 1) := dk_i kdX12_measures_0 6 rfl
theorem dX12_measures_9 : decode cX12_measures 9 = .ok (.iload_n 2, 1) := dk_i kdX12_measures_0 7 rfl
theorem dX12_measures_10 : decode cX12_measures 10 = .ok (.iconst 5, 1) := dk_i kdX12_measures_0 8 rfl
theorem dX12_measures_11 : decode cX12_measures 11 = .ok (.if_icmp .ge 72, 3) := dk_i kdX12_measures_0 9 rfl
theorem dX12_measures_14 : decode cX12_measures 14 = .ok (.aload_n 0, 1) := dk_i kdX12_measures_0 10 rfl
theorem dX12_measures_15 : decode cX12_measures 15 = .ok (.getfield 75, 3) := dk_i kdX12_measures_0 11 rfl
theorem dX12_measures_18 : decode cX12_measures 18 = .ok (.aload_n 0, 1) := dk_i kdX12_measures_0 12 rfl
theorem dX12_measures_19 : decode cX12_measures 19 = .ok (.aload_n 0, 1) := dk_i kdX12_measures_0 13 rfl
theorem dX12_measures_20 : decode cX12_measures 20 = .ok (.getfield 115, 3) := dk_i kdX12_measures_0 14 rfl
theorem dX12_measures_23 : decode cX12_measures 23 = .ok (.iload_n 1, 1) := dk_i kdX12_measures_0 15 rfl
def ldX12_measures_24 : List (Nat × ClassFile.Instr × Nat) := [(24, .iload_n 2, 1), (25, .invokevirtual 369, 3), (28, .iload_n 1, 1), (29, .iload_n 2, 1), (30, .if_icmp .ne 7, 3), (33, .iconst 0, 1), (34, .goto 42, 3), (37, .aload_n 0, 1), (38, .getfield 72, 3), (41, .aload_n 0, 1), (42, .aload_n 0, 1), (43, .getfield 115, 3), (46, .iload_n 1, 1), (47, .iload_n 2, 1), (48, .invokevirtual 369, 3), (51, .iaload, 1)]
theorem kdX12_measures_24 : dkO cX12_measures 24 ldX12_measures_24 = true := by decide +kernel
theorem dX12_measures_24 : decode cX12_measures 24 = .ok (.iload_n 2, 1) := dk_i kdX12_measures_24 0 rfl
theorem dX12_measures_25 : decode cX12_measures 25 = .ok (.invokevirtual 369, 3) := dk_i kdX12_measures_24 1 rfl
theorem dX12_measures_28 : decode cX12_measures 28 = .ok (.iload_n 1, 1) := dk_i kdX12_measures_24 2 rfl
theorem dX12_measures_29 : decode cX12_measures 29 = .ok (.iload_n 2, 1) := dk_i kdX12_measures_24 3 rfl
theorem dX12_measures_30 : decode cX12_measures 30 = .ok (.if_icmp .ne 7, 3) := dk_i kdX12_measures_24 4 rfl
theorem dX12_measures_33 : decode cX12_measures 33 = .ok (.iconst 0, 1) := dk_i kdX12_measures_24 5 rfl
theorem dX12_measures_34 : decode cX12_measures 34 = .ok (.goto 42, 3) := dk_i kdX12_measures_24 6 rfl
theorem dX12_measures_37 : decode cX12_measures 37 = .ok (.aload_n 0, 1) := dk_i kdX12_measures_24 7 rfl
theorem dX12_measures_38 : decode cX12_measures 38 = .ok (.getfield 72, 3) := dk_i kdX12_measures_24 8 rfl
theorem dX12_measures_41 : decode cX12_measures 41 = .ok (.aload_n 0, 1) := dk_i kdX12_measures_24 9 rfl
theorem dX12_measures_42 : decode cX12_measures 42 = .ok (.aload_n 0, 1) := dk_i kdX12_measures_24 10 rfl
theorem dX12_measures_43 : decode cX12_measures 43 = .ok (.getfield 115, 3) := dk_i kdX12_measures_24 11 rfl
theorem dX12_measures_46 : decode cX12_measures 46 = .ok (.iload_n 1, 1) := dk_i kdX12_measures_24 12 rfl
theorem dX12_measures_47 : decode cX12_measures 47 = .ok (.iload_n 2, 1) := dk_i kdX12_measures_24 13 rfl
theorem dX12_measures_48 : decode cX12_measures 48 = .ok (.invokevirtual 369, 3) := dk_i kdX12_measures_24 14 rfl
theorem dX12_measures_51 : decode cX12_measures 51 = .ok (.iaload, 1) := dk_i kdX12_measures_24 15 rfl
def ldX12_measures_52 : List (Nat × ClassFile.Instr × Nat) := [(52, .ifCond .le 21, 3), (55, .aload_n 0, 1), (56, .getfield 72, 3), (59, .aload_n 0, 1), (60, .aload_n 0, 1), (61, .getfield 115, 3), (64, .iload_n 1, 1), (65, .iload_n 2, 1), (66, .invokevirtual 369, 3), (69, .iaload, 1), (70, .goto 6, 3), (73, .ldc_w 399, 3), (76, .iastore, 1), (77, .iinc 2 1, 3), (80, .goto (-71), 3), (83, .iinc 1 1, 3)]
theorem kdX12_measures_52 : dkO cX12_measures 52 ldX12_measures_52 = true := by decide +kernel
theorem dX12_measures_52 : decode cX12_measures 52 = .ok (.ifCond .le 21, 3) := dk_i kdX12_measures_52 0 rfl
theorem dX12_measures_55 : decode cX12_measures 55 = .ok (.aload_n 0, 1) := dk_i kdX12_measures_52 1 rfl
theorem dX12_measures_56 : decode cX12_measures 56 = .ok (.getfield 72, 3) := dk_i kdX12_measures_52 2 rfl
theorem dX12_measures_59 : decode cX12_measures 59 = .ok (.aload_n 0, 1) := dk_i kdX12_measures_52 3 rfl
theorem dX12_measures_60 : decode cX12_measures 60 = .ok (.aload_n 0, 1) := dk_i kdX12_measures_52 4 rfl
theorem dX12_measures_61 : decode cX12_measures 61 = .ok (.getfield 115, 3) := dk_i kdX12_measures_52 5 rfl
theorem dX12_measures_64 : decode cX12_measures 64 = .ok (.iload_n 1, 1) := dk_i kdX12_measures_52 6 rfl
theorem dX12_measures_65 : decode cX12_measures 65 = .ok (.iload_n 2, 1) := dk_i kdX12_measures_52 7 rfl
theorem dX12_measures_66 : decode cX12_measures 66 = .ok (.invokevirtual 369, 3) := dk_i kdX12_measures_52 8 rfl
theorem dX12_measures_69 : decode cX12_measures 69 = .ok (.iaload, 1) := dk_i kdX12_measures_52 9 rfl
theorem dX12_measures_70 : decode cX12_measures 70 = .ok (.goto 6, 3) := dk_i kdX12_measures_52 10 rfl
theorem dX12_measures_73 : decode cX12_measures 73 = .ok (.ldc_w 399, 3) := dk_i kdX12_measures_52 11 rfl
theorem dX12_measures_76 : decode cX12_measures 76 = .ok (.iastore, 1) := dk_i kdX12_measures_52 12 rfl
theorem dX12_measures_77 : decode cX12_measures 77 = .ok (.iinc 2 1, 3) := dk_i kdX12_measures_52 13 rfl
theorem dX12_measures_80 : decode cX12_measures 80 = .ok (.goto (-71), 3) := dk_i kdX12_measures_52 14 rfl
theorem dX12_measures_83 : decode cX12_measures 83 = .ok (.iinc 1 1, 3) := dk_i kdX12_measures_52 15 rfl
def ldX12_measures_86 : List (Nat × ClassFile.Instr × Nat) := [(86, .goto (-84), 3), (89, .iconst 0, 1), (90, .istore_n 1, 1), (91, .iload_n 1, 1), (92, .iconst 5, 1), (93, .if_icmp .ge 105, 3), (96, .iconst 0, 1), (97, .istore_n 2, 1), (98, .iload_n 2, 1), (99, .iconst 5, 1), (100, .if_icmp .ge 92, 3), (103, .iconst 0, 1), (104, .istore_n 3, 1), (105, .iload_n 3, 1), (106, .iconst 5, 1), (107, .if_icmp .ge 79, 3)]
theorem kdX12_measures_86 : dkO cX12_measures 86 ldX12_measures_86 = true := by decide +kernel
theorem dX12_measures_86 : decode cX12_measures 86 = .ok (.goto (-84), 3) := dk_i kdX12_measures_86 0 rfl
theorem dX12_measures_89 : decode cX12_measures 89 = .ok (.iconst 0, 1) := dk_i kdX12_measures_86 1 rfl
theorem dX12_measures_90 : decode cX12_measures 90 = .ok (.istore_n 1, 1) := dk_i kdX12_measures_86 2 rfl
theorem dX12_measures_91 : decode cX12_measures 91 = .ok (.iload_n 1, 1) := dk_i kdX12_measures_86 3 rfl
theorem dX12_measures_92 : decode cX12_measures 92 = .ok (.iconst 5, 1) := dk_i kdX12_measures_86 4 rfl
theorem dX12_measures_93 : decode cX12_measures 93 = .ok (.if_icmp .ge 105, 3) := dk_i kdX12_measures_86 5 rfl
theorem dX12_measures_96 : decode cX12_measures 96 = .ok (.iconst 0, 1) := dk_i kdX12_measures_86 6 rfl
theorem dX12_measures_97 : decode cX12_measures 97 = .ok (.istore_n 2, 1) := dk_i kdX12_measures_86 7 rfl
theorem dX12_measures_98 : decode cX12_measures 98 = .ok (.iload_n 2, 1) := dk_i kdX12_measures_86 8 rfl
theorem dX12_measures_99 : decode cX12_measures 99 = .ok (.iconst 5, 1) := dk_i kdX12_measures_86 9 rfl
theorem dX12_measures_100 : decode cX12_measures 100 = .ok (.if_icmp .ge 92, 3) := dk_i kdX12_measures_86 10 rfl
theorem dX12_measures_103 : decode cX12_measures 103 = .ok (.iconst 0, 1) := dk_i kdX12_measures_86 11 rfl
theorem dX12_measures_104 : decode cX12_measures 104 = .ok (.istore_n 3, 1) := dk_i kdX12_measures_86 12 rfl
theorem dX12_measures_105 : decode cX12_measures 105 = .ok (.iload_n 3, 1) := dk_i kdX12_measures_86 13 rfl
theorem dX12_measures_106 : decode cX12_measures 106 = .ok (.iconst 5, 1) := dk_i kdX12_measures_86 14 rfl
theorem dX12_measures_107 : decode cX12_measures 107 = .ok (.if_icmp .ge 79, 3) := dk_i kdX12_measures_86 15 rfl
def ldX12_measures_110 : List (Nat × ClassFile.Instr × Nat) := [(110, .aload_n 0, 1), (111, .getfield 75, 3), (114, .aload_n 0, 1), (115, .aload_n 0, 1), (116, .getfield 115, 3), (119, .iload_n 2, 1), (120, .iload_n 1, 1), (121, .invokevirtual 369, 3), (124, .iaload, 1), (125, .aload_n 0, 1), (126, .getfield 75, 3), (129, .aload_n 0, 1), (130, .aload_n 0, 1), (131, .getfield 115, 3), (134, .iload_n 1, 1), (135, .iload_n 3, 1)]
theorem kdX12_measures_110 : dkO cX12_measures 110 ldX12_measures_110 = true := by decide +kernel
theorem dX12_measures_110 : decode cX12_measures 110 = .ok (.aload_n 0, 1) := dk_i kdX12_measures_110 0 rfl
theorem dX12_measures_111 : decode cX12_measures 111 = .ok (.getfield 75, 3) := dk_i kdX12_measures_110 1 rfl
theorem dX12_measures_114 : decode cX12_measures 114 = .ok (.aload_n 0, 1) := dk_i kdX12_measures_110 2 rfl
theorem dX12_measures_115 : decode cX12_measures 115 = .ok (.aload_n 0, 1) := dk_i kdX12_measures_110 3 rfl
theorem dX12_measures_116 : decode cX12_measures 116 = .ok (.getfield 115, 3) := dk_i kdX12_measures_110 4 rfl
theorem dX12_measures_119 : decode cX12_measures 119 = .ok (.iload_n 2, 1) := dk_i kdX12_measures_110 5 rfl
theorem dX12_measures_120 : decode cX12_measures 120 = .ok (.iload_n 1, 1) := dk_i kdX12_measures_110 6 rfl
theorem dX12_measures_121 : decode cX12_measures 121 = .ok (.invokevirtual 369, 3) := dk_i kdX12_measures_110 7 rfl
theorem dX12_measures_124 : decode cX12_measures 124 = .ok (.iaload, 1) := dk_i kdX12_measures_110 8 rfl
theorem dX12_measures_125 : decode cX12_measures 125 = .ok (.aload_n 0, 1) := dk_i kdX12_measures_110 9 rfl
theorem dX12_measures_126 : decode cX12_measures 126 = .ok (.getfield 75, 3) := dk_i kdX12_measures_110 10 rfl
theorem dX12_measures_129 : decode cX12_measures 129 = .ok (.aload_n 0, 1) := dk_i kdX12_measures_110 11 rfl
theorem dX12_measures_130 : decode cX12_measures 130 = .ok (.aload_n 0, 1) := dk_i kdX12_measures_110 12 rfl
theorem dX12_measures_131 : decode cX12_measures 131 = .ok (.getfield 115, 3) := dk_i kdX12_measures_110 13 rfl
theorem dX12_measures_134 : decode cX12_measures 134 = .ok (.iload_n 1, 1) := dk_i kdX12_measures_110 14 rfl
theorem dX12_measures_135 : decode cX12_measures 135 = .ok (.iload_n 3, 1) := dk_i kdX12_measures_110 15 rfl
def ldX12_measures_136 : List (Nat × ClassFile.Instr × Nat) := [(136, .invokevirtual 369, 3), (139, .iaload, 1), (140, .iadd, 1), (141, .istore 4, 2), (143, .iload 4, 2), (145, .aload_n 0, 1), (146, .getfield 75, 3), (149, .aload_n 0, 1), (150, .aload_n 0, 1), (151, .getfield 115, 3), (154, .iload_n 2, 1), (155, .iload_n 3, 1), (156, .invokevirtual 369, 3), (159, .iaload, 1), (160, .if_icmp .ge 20, 3), (163, .aload_n 0, 1)]
theorem kdX12_measures_136 : dkO cX12_measures 136 ldX12_measures_136 = true := by decide +kernel
theorem dX12_measures_136 : decode cX12_measures 136 = .ok (.invokevirtual 369, 3) := dk_i kdX12_measures_136 0 rfl
theorem dX12_measures_139 : decode cX12_measures 139 = .ok (.iaload, 1) := dk_i kdX12_measures_136 1 rfl
theorem dX12_measures_140 : decode cX12_measures 140 = .ok (.iadd, 1) := dk_i kdX12_measures_136 2 rfl
theorem dX12_measures_141 : decode cX12_measures 141 = .ok (.istore 4, 2) := dk_i kdX12_measures_136 3 rfl
theorem dX12_measures_143 : decode cX12_measures 143 = .ok (.iload 4, 2) := dk_i kdX12_measures_136 4 rfl
theorem dX12_measures_145 : decode cX12_measures 145 = .ok (.aload_n 0, 1) := dk_i kdX12_measures_136 5 rfl
theorem dX12_measures_146 : decode cX12_measures 146 = .ok (.getfield 75, 3) := dk_i kdX12_measures_136 6 rfl
theorem dX12_measures_149 : decode cX12_measures 149 = .ok (.aload_n 0, 1) := dk_i kdX12_measures_136 7 rfl
theorem dX12_measures_150 : decode cX12_measures 150 = .ok (.aload_n 0, 1) := dk_i kdX12_measures_136 8 rfl
theorem dX12_measures_151 : decode cX12_measures 151 = .ok (.getfield 115, 3) := dk_i kdX12_measures_136 9 rfl
theorem dX12_measures_154 : decode cX12_measures 154 = .ok (.iload_n 2, 1) := dk_i kdX12_measures_136 10 rfl
theorem dX12_measures_155 : decode cX12_measures 155 = .ok (.iload_n 3, 1) := dk_i kdX12_measures_136 11 rfl
theorem dX12_measures_156 : decode cX12_measures 156 = .ok (.invokevirtual 369, 3) := dk_i kdX12_measures_136 12 rfl
theorem dX12_measures_159 : decode cX12_measures 159 = .ok (.iaload, 1) := dk_i kdX12_measures_136 13 rfl
theorem dX12_measures_160 : decode cX12_measures 160 = .ok (.if_icmp .ge 20, 3) := dk_i kdX12_measures_136 14 rfl
theorem dX12_measures_163 : decode cX12_measures 163 = .ok (.aload_n 0, 1) := dk_i kdX12_measures_136 15 rfl
def ldX12_measures_164 : List (Nat × ClassFile.Instr × Nat) := [(164, .getfield 75, 3), (167, .aload_n 0, 1), (168, .aload_n 0, 1), (169, .getfield 115, 3), (172, .iload_n 2, 1), (173, .iload_n 3, 1), (174, .invokevirtual 369, 3), (177, .iload 4, 2), (179, .iastore, 1), (180, .iinc 3 1, 3), (183, .goto (-78), 3), (186, .iinc 2 1, 3), (189, .goto (-91), 3), (192, .iinc 1 1, 3), (195, .goto (-104), 3), (198, .return_, 1)]
theorem kdX12_measures_164 : dkO cX12_measures 164 ldX12_measures_164 = true := by decide +kernel
theorem dX12_measures_164 : decode cX12_measures 164 = .ok (.getfield 75, 3) := dk_i kdX12_measures_164 0 rfl
theorem dX12_measures_167 : decode cX12_measures 167 = .ok (.aload_n 0, 1) := dk_i kdX12_measures_164 1 rfl
theorem dX12_measures_168 : decode cX12_measures 168 = .ok (.aload_n 0, 1) := dk_i kdX12_measures_164 2 rfl
theorem dX12_measures_169 : decode cX12_measures 169 = .ok (.getfield 115, 3) := dk_i kdX12_measures_164 3 rfl
theorem dX12_measures_172 : decode cX12_measures 172 = .ok (.iload_n 2, 1) := dk_i kdX12_measures_164 4 rfl
theorem dX12_measures_173 : decode cX12_measures 173 = .ok (.iload_n 3, 1) := dk_i kdX12_measures_164 5 rfl
theorem dX12_measures_174 : decode cX12_measures 174 = .ok (.invokevirtual 369, 3) := dk_i kdX12_measures_164 6 rfl
theorem dX12_measures_177 : decode cX12_measures 177 = .ok (.iload 4, 2) := dk_i kdX12_measures_164 7 rfl
theorem dX12_measures_179 : decode cX12_measures 179 = .ok (.iastore, 1) := dk_i kdX12_measures_164 8 rfl
theorem dX12_measures_180 : decode cX12_measures 180 = .ok (.iinc 3 1, 3) := dk_i kdX12_measures_164 9 rfl
theorem dX12_measures_183 : decode cX12_measures 183 = .ok (.goto (-78), 3) := dk_i kdX12_measures_164 10 rfl
theorem dX12_measures_186 : decode cX12_measures 186 = .ok (.iinc 2 1, 3) := dk_i kdX12_measures_164 11 rfl
theorem dX12_measures_189 : decode cX12_measures 189 = .ok (.goto (-91), 3) := dk_i kdX12_measures_164 12 rfl
theorem dX12_measures_192 : decode cX12_measures 192 = .ok (.iinc 1 1, 3) := dk_i kdX12_measures_164 13 rfl
theorem dX12_measures_195 : decode cX12_measures 195 = .ok (.goto (-104), 3) := dk_i kdX12_measures_164 14 rfl
theorem dX12_measures_198 : decode cX12_measures 198 = .ok (.return_, 1) := dk_i kdX12_measures_164 15 rfl
def ldX12_town_0 : List (Nat × ClassFile.Instr × Nat) := [(0, .aload_n 0, 1), (1, .aload_n 0, 1), (2, .getfield 13, 3), (5, .putfield 17, 3), (8, .aload_n 0, 1), (9, .iconst 0, 1), (10, .putfield 13, 3), (13, .aload_n 0, 1), (14, .iconst 0, 1), (15, .putfield 26, 3), (18, .aload_n 0, 1), (19, .iconst 0, 1), (20, .putfield 36, 3), (23, .aload_n 0, 1), (24, .iconst (-1), 1), (25, .putfield 39, 3)]
theorem kdX12_town_0 : dkO cX12_town 0 ldX12_town_0 = true := by decide +kernel
theorem dX12_town_0 : decode cX12_town 0 = .ok (.aload_n 0, 1) := dk_i kdX12_town_0 0 rfl
theorem dX12_town_1 : decode cX12_town 1 = .ok (.aload_n 0, 1) := dk_i kdX12_town_0 1 rfl
theorem dX12_town_2 : decode cX12_town 2 = .ok (.getfield 13, 3) := dk_i kdX12_town_0 2 rfl
theorem dX12_town_5 : decode cX12_town 5 = .ok (.putfield 17, 3) := dk_i kdX12_town_0 3 rfl
theorem dX12_town_8 : decode cX12_town 8 = .ok (.aload_n 0, 1) := dk_i kdX12_town_0 4 rfl
theorem dX12_town_9 : decode cX12_town 9 = .ok (.iconst 0, 1) := dk_i kdX12_town_0 5 rfl
theorem dX12_town_10 : decode cX12_town 10 = .ok (.putfield 13, 3) := dk_i kdX12_town_0 6 rfl
theorem dX12_town_13 : decode cX12_town 13 = .ok (.aload_n 0, 1) := dk_i kdX12_town_0 7 rfl
theorem dX12_town_14 : decode cX12_town 14 = .ok (.iconst 0, 1) := dk_i kdX12_town_0 8 rfl
theorem dX12_town_15 : decode cX12_town 15 = .ok (.putfield 26, 3) := dk_i kdX12_town_0 9 rfl
theorem dX12_town_18 : decode cX12_town 18 = .ok (.aload_n 0, 1) := dk_i kdX12_town_0 10 rfl
theorem dX12_town_19 : decode cX12_town 19 = .ok (.iconst 0, 1) := dk_i kdX12_town_0 11 rfl
theorem dX12_town_20 : decode cX12_town 20 = .ok (.putfield 36, 3) := dk_i kdX12_town_0 12 rfl
theorem dX12_town_23 : decode cX12_town 23 = .ok (.aload_n 0, 1) := dk_i kdX12_town_0 13 rfl
theorem dX12_town_24 : decode cX12_town 24 = .ok (.iconst (-1), 1) := dk_i kdX12_town_0 14 rfl
theorem dX12_town_25 : decode cX12_town 25 = .ok (.putfield 39, 3) := dk_i kdX12_town_0 15 rfl
def ldX12_town_28 : List (Nat × ClassFile.Instr × Nat) := [(28, .aload_n 0, 1), (29, .iconst 1, 1), (30, .aload_n 0, 1), (31, .getfield 51, 3), (34, .isub, 1), (35, .putfield 115, 3), (38, .aload_n 0, 1), (39, .getfield 54, 3), (42, .aload_n 0, 1), (43, .getfield 115, 3), (46, .iconst 0, 1), (47, .iastore, 1), (48, .aload_n 0, 1), (49, .getfield 63, 3), (52, .aload_n 0, 1), (53, .getfield 115, 3)]
theorem kdX12_town_28 : dkO cX12_town 28 ldX12_town_28 = true := by decide +kernel
theorem dX12_town_28 : decode cX12_town 28 = .ok (.aload_n 0, 1) := dk_i kdX12_town_28 0 rfl
theorem dX12_town_29 : decode cX12_town 29 = .ok (.iconst 1, 1) := dk_i kdX12_town_28 1 rfl
theorem dX12_town_30 : decode cX12_town 30 = .ok (.aload_n 0, 1) := dk_i kdX12_town_28 2 rfl
theorem dX12_town_31 : decode cX12_town 31 = .ok (.getfield 51, 3) := dk_i kdX12_town_28 3 rfl
theorem dX12_town_34 : decode cX12_town 34 = .ok (.isub, 1) := dk_i kdX12_town_28 4 rfl
theorem dX12_town_35 : decode cX12_town 35 = .ok (.putfield 115, 3) := dk_i kdX12_town_28 5 rfl
theorem dX12_town_38 : decode cX12_town 38 = .ok (.aload_n 0, 1) := dk_i kdX12_town_28 6 rfl
theorem dX12_town_39 : decode cX12_town 39 = .ok (.getfield 54, 3) := dk_i kdX12_town_28 7 rfl
theorem dX12_town_42 : decode cX12_town 42 = .ok (.aload_n 0, 1) := dk_i kdX12_town_28 8 rfl
theorem dX12_town_43 : decode cX12_town 43 = .ok (.getfield 115, 3) := dk_i kdX12_town_28 9 rfl
theorem dX12_town_46 : decode cX12_town 46 = .ok (.iconst 0, 1) := dk_i kdX12_town_28 10 rfl
theorem dX12_town_47 : decode cX12_town 47 = .ok (.iastore, 1) := dk_i kdX12_town_28 11 rfl
theorem dX12_town_48 : decode cX12_town 48 = .ok (.aload_n 0, 1) := dk_i kdX12_town_28 12 rfl
theorem dX12_town_49 : decode cX12_town 49 = .ok (.getfield 63, 3) := dk_i kdX12_town_28 13 rfl
theorem dX12_town_52 : decode cX12_town 52 = .ok (.aload_n 0, 1) := dk_i kdX12_town_28 14 rfl
theorem dX12_town_53 : decode cX12_town 53 = .ok (.getfield 115, 3) := dk_i kdX12_town_28 15 rfl
def ldX12_town_56 : List (Nat × ClassFile.Instr × Nat) := [(56, .iconst 0, 1), (57, .iastore, 1), (58, .aload_n 0, 1), (59, .getfield 69, 3), (62, .aload_n 0, 1), (63, .getfield 115, 3), (66, .iconst 0, 1), (67, .iastore, 1), (68, .aload_n 0, 1), (69, .getfield 78, 3), (72, .aload_n 0, 1), (73, .getfield 115, 3), (76, .iconst 0, 1), (77, .iastore, 1), (78, .aload_n 0, 1), (79, .getfield 87, 3)]
theorem kdX12_town_56 : dkO cX12_town 56 ldX12_town_56 = true := by decide +kernel
theorem dX12_town_56 : decode cX12_town 56 = .ok (.iconst 0, 1) := dk_i kdX12_town_56 0 rfl
theorem dX12_town_57 : decode cX12_town 57 = .ok (.iastore, 1) := dk_i kdX12_town_56 1 rfl
theorem dX12_town_58 : decode cX12_town 58 = .ok (.aload_n 0, 1) := dk_i kdX12_town_56 2 rfl
theorem dX12_town_59 : decode cX12_town 59 = .ok (.getfield 69, 3) := dk_i kdX12_town_56 3 rfl
theorem dX12_town_62 : decode cX12_town 62 = .ok (.aload_n 0, 1) := dk_i kdX12_town_56 4 rfl
theorem dX12_town_63 : decode cX12_town 63 = .ok (.getfield 115, 3) := dk_i kdX12_town_56 5 rfl
theorem dX12_town_66 : decode cX12_town 66 = .ok (.iconst 0, 1) := dk_i kdX12_town_56 6 rfl
theorem dX12_town_67 : decode cX12_town 67 = .ok (.iastore, 1) := dk_i kdX12_town_56 7 rfl
theorem dX12_town_68 : decode cX12_town 68 = .ok (.aload_n 0, 1) := dk_i kdX12_town_56 8 rfl
theorem dX12_town_69 : decode cX12_town 69 = .ok (.getfield 78, 3) := dk_i kdX12_town_56 9 rfl
theorem dX12_town_72 : decode cX12_town 72 = .ok (.aload_n 0, 1) := dk_i kdX12_town_56 10 rfl
theorem dX12_town_73 : decode cX12_town 73 = .ok (.getfield 115, 3) := dk_i kdX12_town_56 11 rfl
theorem dX12_town_76 : decode cX12_town 76 = .ok (.iconst 0, 1) := dk_i kdX12_town_56 12 rfl
theorem dX12_town_77 : decode cX12_town 77 = .ok (.iastore, 1) := dk_i kdX12_town_56 13 rfl
theorem dX12_town_78 : decode cX12_town 78 = .ok (.aload_n 0, 1) := dk_i kdX12_town_56 14 rfl
theorem dX12_town_79 : decode cX12_town 79 = .ok (.getfield 87, 3) := dk_i kdX12_town_56 15 rfl
def ldX12_town_82 : List (Nat × ClassFile.Instr × Nat) := [(82, .aload_n 0, 1), (83, .getfield 115, 3), (86, .iconst 0, 1), (87, .iastore, 1), (88, .aload_n 0, 1), (89, .getfield 90, 3), (92, .iconst 2, 1), (93, .aload_n 0, 1), (94, .getfield 115, 3), (97, .imul, 1), (98, .iconst (-1), 1), (99, .iastore, 1), (100, .aload_n 0, 1), (101, .getfield 90, 3), (104, .iconst 2, 1), (105, .aload_n 0, 1)]
theorem kdX12_town_82 : dkO cX12_town 82 ldX12_town_82 = true := by decide +kernel
theorem dX12_town_82 : decode cX12_town 82 = .ok (.aload_n 0, 1) := dk_i kdX12_town_82 0 rfl
theorem dX12_town_83 : decode cX12_town 83 = .ok (.getfield 115, 3) := dk_i kdX12_town_82 1 rfl
theorem dX12_town_86 : decode cX12_town 86 = .ok (.iconst 0, 1) := dk_i kdX12_town_82 2 rfl
theorem dX12_town_87 : decode cX12_town 87 = .ok (.iastore, 1) := dk_i kdX12_town_82 3 rfl
theorem dX12_town_88 : decode cX12_town 88 = .ok (.aload_n 0, 1) := dk_i kdX12_town_82 4 rfl
theorem dX12_town_89 : decode cX12_town 89 = .ok (.getfield 90, 3) := dk_i kdX12_town_82 5 rfl
theorem dX12_town_92 : decode cX12_town 92 = .ok (.iconst 2, 1) := dk_i kdX12_town_82 6 rfl
theorem dX12_town_93 : decode cX12_town 93 = .ok (.aload_n 0, 1) := dk_i kdX12_town_82 7 rfl
theorem dX12_town_94 : decode cX12_town 94 = .ok (.getfield 115, 3) := dk_i kdX12_town_82 8 rfl
theorem dX12_town_97 : decode cX12_town 97 = .ok (.imul, 1) := dk_i kdX12_town_82 9 rfl
theorem dX12_town_98 : decode cX12_town 98 = .ok (.iconst (-1), 1) := dk_i kdX12_town_82 10 rfl
theorem dX12_town_99 : decode cX12_town 99 = .ok (.iastore, 1) := dk_i kdX12_town_82 11 rfl
theorem dX12_town_100 : decode cX12_town 100 = .ok (.aload_n 0, 1) := dk_i kdX12_town_82 12 rfl
theorem dX12_town_101 : decode cX12_town 101 = .ok (.getfield 90, 3) := dk_i kdX12_town_82 13 rfl
theorem dX12_town_104 : decode cX12_town 104 = .ok (.iconst 2, 1) := dk_i kdX12_town_82 14 rfl
theorem dX12_town_105 : decode cX12_town 105 = .ok (.aload_n 0, 1) := dk_i kdX12_town_82 15 rfl
def ldX12_town_106 : List (Nat × ClassFile.Instr × Nat) := [(106, .getfield 115, 3), (109, .imul, 1), (110, .iconst 1, 1), (111, .iadd, 1), (112, .iconst (-1), 1), (113, .iastore, 1), (114, .iconst 0, 1), (115, .istore_n 1, 1), (116, .iload_n 1, 1), (117, .iconst 5, 1), (118, .if_icmp .ge 38, 3), (121, .iconst 0, 1), (122, .istore_n 2, 1), (123, .iload_n 2, 1), (124, .iconst 5, 1), (125, .if_icmp .ge 25, 3)]
theorem kdX12_town_106 : dkO cX12_town 106 ldX12_town_106 = true := by decide +kernel
theorem dX12_town_106 : decode cX12_town 106 = .ok (.getfield 115, 3) := dk_i kdX12_town_106 0 rfl
theorem dX12_town_109 : decode cX12_town 109 = .ok (.imul, 1) := dk_i kdX12_town_106 1 rfl
theorem dX12_town_110 : decode cX12_town 110 = .ok (.iconst 1, 1) := dk_i kdX12_town_106 2 rfl
theorem dX12_town_111 : decode cX12_town 111 = .ok (.iadd, 1) := dk_i kdX12_town_106 3 rfl
theorem dX12_town_112 : decode cX12_town 112 = .ok (.iconst (-1), 1) := dk_i kdX12_town_106 4 rfl
theorem dX12_town_113 : decode cX12_town 113 = .ok (.iastore, 1) := dk_i kdX12_town_106 5 rfl
theorem dX12_town_114 : decode cX12_town 114 = .ok (.iconst 0, 1) := dk_i kdX12_town_106 6 rfl
theorem dX12_town_115 : decode cX12_town 115 = .ok (.istore_n 1, 1) := dk_i kdX12_town_106 7 rfl
theorem dX12_town_116 : decode cX12_town 116 = .ok (.iload_n 1, 1) := dk_i kdX12_town_106 8 rfl
theorem dX12_town_117 : decode cX12_town 117 = .ok (.iconst 5, 1) := dk_i kdX12_town_106 9 rfl
theorem dX12_town_118 : decode cX12_town 118 = .ok (.if_icmp .ge 38, 3) := dk_i kdX12_town_106 10 rfl
theorem dX12_town_121 : decode cX12_town 121 = .ok (.iconst 0, 1) := dk_i kdX12_town_106 11 rfl
theorem dX12_town_122 : decode cX12_town 122 = .ok (.istore_n 2, 1) := dk_i kdX12_town_106 12 rfl
theorem dX12_town_123 : decode cX12_town 123 = .ok (.iload_n 2, 1) := dk_i kdX12_town_106 13 rfl
theorem dX12_town_124 : decode cX12_town 124 = .ok (.iconst 5, 1) := dk_i kdX12_town_106 14 rfl
theorem dX12_town_125 : decode cX12_town 125 = .ok (.if_icmp .ge 25, 3) := dk_i kdX12_town_106 15 rfl
def ldX12_town_128 : List (Nat × ClassFile.Instr × Nat) := [(128, .aload_n 0, 1), (129, .getfield 72, 3), (132, .aload_n 0, 1), (133, .aload_n 0, 1), (134, .getfield 115, 3), (137, .iload_n 1, 1), (138, .iload_n 2, 1), (139, .invokevirtual 369, 3), (142, .iconst 0, 1), (143, .iastore, 1), (144, .iinc 2 1, 3), (147, .goto (-24), 3), (150, .iinc 1 1, 3), (153, .goto (-37), 3), (156, .aload_n 0, 1), (157, .iconst 0, 1)]
theorem kdX12_town_128 : dkO cX12_town 128 ldX12_town_128 = true := by decide +kernel
theorem dX12_town_128 : decode cX12_town 128 = .ok (.aload_n 0, 1) := dk_i kdX12_town_128 0 rfl
theorem dX12_town_129 : decode cX12_town 129 = .ok (.getfield 72, 3) := dk_i kdX12_town_128 1 rfl
theorem dX12_town_132 : decode cX12_town 132 = .ok (.aload_n 0, 1) := dk_i kdX12_town_128 2 rfl
theorem dX12_town_133 : decode cX12_town 133 = .ok (.aload_n 0, 1) := dk_i kdX12_town_128 3 rfl
theorem dX12_town_134 : decode cX12_town 134 = .ok (.getfield 115, 3) := dk_i kdX12_town_128 4 rfl
theorem dX12_town_137 : decode cX12_town 137 = .ok (.iload_n 1, 1) := dk_i kdX12_town_128 5 rfl
theorem dX12_town_138 : decode cX12_town 138 = .ok (.iload_n 2, 1) := dk_i kdX12_town_128 6 rfl
theorem dX12_town_139 : decode cX12_town 139 = .ok (.invokevirtual 369, 3) := dk_i kdX12_town_128 7 rfl
theorem dX12_town_142 : decode cX12_town 142 = .ok (.iconst 0, 1) := dk_i kdX12_town_128 8 rfl
theorem dX12_town_143 : decode cX12_town 143 = .ok (.iastore, 1) := dk_i kdX12_town_128 9 rfl
theorem dX12_town_144 : decode cX12_town 144 = .ok (.iinc 2 1, 3) := dk_i kdX12_town_128 10 rfl
theorem dX12_town_147 : decode cX12_town 147 = .ok (.goto (-24), 3) := dk_i kdX12_town_128 11 rfl
theorem dX12_town_150 : decode cX12_town 150 = .ok (.iinc 1 1, 3) := dk_i kdX12_town_128 12 rfl
theorem dX12_town_153 : decode cX12_town 153 = .ok (.goto (-37), 3) := dk_i kdX12_town_128 13 rfl
theorem dX12_town_156 : decode cX12_town 156 = .ok (.aload_n 0, 1) := dk_i kdX12_town_128 14 rfl
theorem dX12_town_157 : decode cX12_town 157 = .ok (.iconst 0, 1) := dk_i kdX12_town_128 15 rfl
def ldX12_town_158 : List (Nat × ClassFile.Instr × Nat) := [(158, .putfield 112, 3), (161, .iconst 0, 1), (162, .istore_n 1, 1), (163, .aload_n 0, 1), (164, .invokevirtual 244, 3), (167, .aload_n 0, 1), (168, .getfield 36, 3), (171, .ifCond .ne 25, 3), (174, .aload_n 0, 1), (175, .getfield 20, 3), (178, .ifCond .eq 18, 3), (181, .aload_n 0, 1), (182, .invokevirtual 400, 3), (185, .iinc 1 1, 3), (188, .aload_n 0, 1), (189, .iload_n 1, 1)]
theorem kdX12_town_158 : dkO cX12_town 158 ldX12_town_158 = true := by decide +kernel
theorem dX12_town_158 : decode cX12_town 158 = .ok (.putfield 112, 3) := dk_i kdX12_town_158 0 rfl
theorem dX12_town_161 : decode cX12_town 161 = .ok (.iconst 0, 1) := dk_i kdX12_town_158 1 rfl
theorem dX12_town_162 : decode cX12_town 162 = .ok (.istore_n 1, 1) := dk_i kdX12_town_158 2 rfl
theorem dX12_town_163 : decode cX12_town 163 = .ok (.aload_n 0, 1) := dk_i kdX12_town_158 3 rfl
theorem dX12_town_164 : decode cX12_town 164 = .ok (.invokevirtual 244, 3) := dk_i kdX12_town_158 4 rfl
theorem dX12_town_167 : decode cX12_town 167 = .ok (.aload_n 0, 1) := dk_i kdX12_town_158 5 rfl
theorem dX12_town_168 : decode cX12_town 168 = .ok (.getfield 36, 3) := dk_i kdX12_town_158 6 rfl
theorem dX12_town_171 : decode cX12_town 171 = .ok (.ifCond .ne 25, 3) := dk_i kdX12_town_158 7 rfl
theorem dX12_town_174 : decode cX12_town 174 = .ok (.aload_n 0, 1) := dk_i kdX12_town_158 8 rfl
theorem dX12_town_175 : decode cX12_town 175 = .ok (.getfield 20, 3) := dk_i kdX12_town_158 9 rfl
theorem dX12_town_178 : decode cX12_town 178 = .ok (.ifCond .eq 18, 3) := dk_i kdX12_town_158 10 rfl
theorem dX12_town_181 : decode cX12_town 181 = .ok (.aload_n 0, 1) := dk_i kdX12_town_158 11 rfl
theorem dX12_town_182 : decode cX12_town 182 = .ok (.invokevirtual 400, 3) := dk_i kdX12_town_158 12 rfl
theorem dX12_town_185 : decode cX12_town 185 = .ok (.iinc 1 1, 3) := dk_i kdX12_town_158 13 rfl
theorem dX12_town_188 : decode cX12_town 188 = .ok (.aload_n 0, 1) := dk_i kdX12_town_158 14 rfl
theorem dX12_town_189 : decode cX12_town 189 = .ok (.iload_n 1, 1) := dk_i kdX12_town_158 15 rfl
def ldX12_town_190 : List (Nat × ClassFile.Instr × Nat) := [(190, .invokevirtual 403, 3), (193, .goto (-26), 3), (196, .aload_n 0, 1), (197, .aload_n 0, 1), (198, .getfield 36, 3), (201, .putfield 42, 3), (204, .aload_n 0, 1), (205, .aload_n 0, 1), (206, .getfield 39, 3), (209, .putfield 45, 3), (212, .aload_n 0, 1), (213, .getfield 36, 3), (216, .ifCond .le 9, 3), (219, .aload_n 0, 1), (220, .iconst 1, 1), (221, .invokevirtual 219, 3)]
theorem kdX12_town_190 : dkO cX12_town 190 ldX12_town_190 = true := by decide +kernel
theorem dX12_town_190 : decode cX12_town 190 = .ok (.invokevirtual 403, 3) := dk_i kdX12_town_190 0 rfl
theorem dX12_town_193 : decode cX12_town 193 = .ok (.goto (-26), 3) := dk_i kdX12_town_190 1 rfl
theorem dX12_town_196 : decode cX12_town 196 = .ok (.aload_n 0, 1) := dk_i kdX12_town_190 2 rfl
theorem dX12_town_197 : decode cX12_town 197 = .ok (.aload_n 0, 1) := dk_i kdX12_town_190 3 rfl
theorem dX12_town_198 : decode cX12_town 198 = .ok (.getfield 36, 3) := dk_i kdX12_town_190 4 rfl
theorem dX12_town_201 : decode cX12_town 201 = .ok (.putfield 42, 3) := dk_i kdX12_town_190 5 rfl
theorem dX12_town_204 : decode cX12_town 204 = .ok (.aload_n 0, 1) := dk_i kdX12_town_190 6 rfl
theorem dX12_town_205 : decode cX12_town 205 = .ok (.aload_n 0, 1) := dk_i kdX12_town_190 7 rfl
theorem dX12_town_206 : decode cX12_town 206 = .ok (.getfield 39, 3) := dk_i kdX12_town_190 8 rfl
theorem dX12_town_209 : decode cX12_town 209 = .ok (.putfield 45, 3) := dk_i kdX12_town_190 9 rfl
theorem dX12_town_212 : decode cX12_town 212 = .ok (.aload_n 0, 1) := dk_i kdX12_town_190 10 rfl
theorem dX12_town_213 : decode cX12_town 213 = .ok (.getfield 36, 3) := dk_i kdX12_town_190 11 rfl
theorem dX12_town_216 : decode cX12_town 216 = .ok (.ifCond .le 9, 3) := dk_i kdX12_town_190 12 rfl
theorem dX12_town_219 : decode cX12_town 219 = .ok (.aload_n 0, 1) := dk_i kdX12_town_190 13 rfl
theorem dX12_town_220 : decode cX12_town 220 = .ok (.iconst 1, 1) := dk_i kdX12_town_190 14 rfl
theorem dX12_town_221 : decode cX12_town 221 = .ok (.invokevirtual 219, 3) := dk_i kdX12_town_190 15 rfl
def ldX12_town_224 : List (Nat × ClassFile.Instr × Nat) := [(224, .ireturn, 1), (225, .aload_n 0, 1), (226, .invokevirtual 406, 3), (229, .aload_n 0, 1), (230, .aload_n 0, 1), (231, .getfield 115, 3), (234, .putfield 51, 3), (237, .aload_n 0, 1), (238, .invokevirtual 409, 3), (241, .iload_n 1, 1), (242, .ireturn, 1)]
theorem kdX12_town_224 : dkO cX12_town 224 ldX12_town_224 = true := by decide +kernel
theorem dX12_town_224 : decode cX12_town 224 = .ok (.ireturn, 1) := dk_i kdX12_town_224 0 rfl
theorem dX12_town_225 : decode cX12_town 225 = .ok (.aload_n 0, 1) := dk_i kdX12_town_224 1 rfl
theorem dX12_town_226 : decode cX12_town 226 = .ok (.invokevirtual 406, 3) := dk_i kdX12_town_224 2 rfl
theorem dX12_town_229 : decode cX12_town 229 = .ok (.aload_n 0, 1) := dk_i kdX12_town_224 3 rfl
theorem dX12_town_230 : decode cX12_town 230 = .ok (.aload_n 0, 1) := dk_i kdX12_town_224 4 rfl
theorem dX12_town_231 : decode cX12_town 231 = .ok (.getfield 115, 3) := dk_i kdX12_town_224 5 rfl
theorem dX12_town_234 : decode cX12_town 234 = .ok (.putfield 51, 3) := dk_i kdX12_town_224 6 rfl
theorem dX12_town_237 : decode cX12_town 237 = .ok (.aload_n 0, 1) := dk_i kdX12_town_224 7 rfl
theorem dX12_town_238 : decode cX12_town 238 = .ok (.invokevirtual 409, 3) := dk_i kdX12_town_224 8 rfl
theorem dX12_town_241 : decode cX12_town 241 = .ok (.iload_n 1, 1) := dk_i kdX12_town_224 9 rfl
theorem dX12_town_242 : decode cX12_town 242 = .ok (.ireturn, 1) := dk_i kdX12_town_224 10 rfl
def ldX12_fault_0 : List (Nat × ClassFile.Instr × Nat) := [(0, .iload_n 1, 1), (1, .ifCond .ne 10, 3), (4, .aload_n 0, 1), (5, .getfield 42, 3), (8, .goto 16, 3), (11, .iload_n 1, 1), (12, .iconst 1, 1), (13, .if_icmp .ne 10, 3), (16, .aload_n 0, 1), (17, .getfield 45, 3), (20, .goto 4, 3), (23, .iconst (-1), 1), (24, .ireturn, 1)]
theorem kdX12_fault_0 : dkO cX12_fault 0 ldX12_fault_0 = true := by decide +kernel
theorem dX12_fault_0 : decode cX12_fault 0 = .ok (.iload_n 1, 1) := dk_i kdX12_fault_0 0 rfl
theorem dX12_fault_1 : decode cX12_fault 1 = .ok (.ifCond .ne 10, 3) := dk_i kdX12_fault_0 1 rfl
theorem dX12_fault_4 : decode cX12_fault 4 = .ok (.aload_n 0, 1) := dk_i kdX12_fault_0 2 rfl
theorem dX12_fault_5 : decode cX12_fault 5 = .ok (.getfield 42, 3) := dk_i kdX12_fault_0 3 rfl
theorem dX12_fault_8 : decode cX12_fault 8 = .ok (.goto 16, 3) := dk_i kdX12_fault_0 4 rfl
theorem dX12_fault_11 : decode cX12_fault 11 = .ok (.iload_n 1, 1) := dk_i kdX12_fault_0 5 rfl
theorem dX12_fault_12 : decode cX12_fault 12 = .ok (.iconst 1, 1) := dk_i kdX12_fault_0 6 rfl
theorem dX12_fault_13 : decode cX12_fault 13 = .ok (.if_icmp .ne 10, 3) := dk_i kdX12_fault_0 7 rfl
theorem dX12_fault_16 : decode cX12_fault 16 = .ok (.aload_n 0, 1) := dk_i kdX12_fault_0 8 rfl
theorem dX12_fault_17 : decode cX12_fault 17 = .ok (.getfield 45, 3) := dk_i kdX12_fault_0 9 rfl
theorem dX12_fault_20 : decode cX12_fault 20 = .ok (.goto 4, 3) := dk_i kdX12_fault_0 10 rfl
theorem dX12_fault_23 : decode cX12_fault 23 = .ok (.iconst (-1), 1) := dk_i kdX12_fault_0 11 rfl
theorem dX12_fault_24 : decode cX12_fault 24 = .ok (.ireturn, 1) := dk_i kdX12_fault_0 12 rfl
def ldX12_refuses_0 : List (Nat × ClassFile.Instr × Nat) := [(0, .aload_n 0, 1), (1, .getfield 153, 3), (4, .iload_n 1, 1), (5, .dup2, 1), (6, .iaload, 1), (7, .iconst 1, 1), (8, .iadd, 1), (9, .iastore, 1), (10, .iconst (-1), 1), (11, .ireturn, 1)]
theorem kdX12_refuses_0 : dkO cX12_refuses 0 ldX12_refuses_0 = true := by decide +kernel
theorem dX12_refuses_0 : decode cX12_refuses 0 = .ok (.aload_n 0, 1) := dk_i kdX12_refuses_0 0 rfl
theorem dX12_refuses_1 : decode cX12_refuses 1 = .ok (.getfield 153, 3) := dk_i kdX12_refuses_0 1 rfl
theorem dX12_refuses_4 : decode cX12_refuses 4 = .ok (.iload_n 1, 1) := dk_i kdX12_refuses_0 2 rfl
theorem dX12_refuses_5 : decode cX12_refuses 5 = .ok (.dup2, 1) := dk_i kdX12_refuses_0 3 rfl
theorem dX12_refuses_6 : decode cX12_refuses 6 = .ok (.iaload, 1) := dk_i kdX12_refuses_0 4 rfl
theorem dX12_refuses_7 : decode cX12_refuses 7 = .ok (.iconst 1, 1) := dk_i kdX12_refuses_0 5 rfl
theorem dX12_refuses_8 : decode cX12_refuses 8 = .ok (.iadd, 1) := dk_i kdX12_refuses_0 6 rfl
theorem dX12_refuses_9 : decode cX12_refuses 9 = .ok (.iastore, 1) := dk_i kdX12_refuses_0 7 rfl
theorem dX12_refuses_10 : decode cX12_refuses 10 = .ok (.iconst (-1), 1) := dk_i kdX12_refuses_0 8 rfl
theorem dX12_refuses_11 : decode cX12_refuses 11 = .ok (.ireturn, 1) := dk_i kdX12_refuses_0 9 rfl
def ldX12_status_0 : List (Nat × ClassFile.Instr × Nat) := [(0, .iload_n 1, 1), (1, .iconst 0, 1), (2, .iconst 5, 1), (3, .invokestatic 305, 3), (6, .ifCond .eq 12, 3), (9, .aload_n 0, 1), (10, .getfield 153, 3), (13, .iload_n 1, 1), (14, .iaload, 1), (15, .goto 4, 3), (18, .iconst (-1), 1), (19, .ireturn, 1)]
theorem kdX12_status_0 : dkO cX12_status 0 ldX12_status_0 = true := by decide +kernel
theorem dX12_status_0 : decode cX12_status 0 = .ok (.iload_n 1, 1) := dk_i kdX12_status_0 0 rfl
theorem dX12_status_1 : decode cX12_status 1 = .ok (.iconst 0, 1) := dk_i kdX12_status_0 1 rfl
theorem dX12_status_2 : decode cX12_status 2 = .ok (.iconst 5, 1) := dk_i kdX12_status_0 2 rfl
theorem dX12_status_3 : decode cX12_status 3 = .ok (.invokestatic 305, 3) := dk_i kdX12_status_0 3 rfl
theorem dX12_status_6 : decode cX12_status 6 = .ok (.ifCond .eq 12, 3) := dk_i kdX12_status_0 4 rfl
theorem dX12_status_9 : decode cX12_status 9 = .ok (.aload_n 0, 1) := dk_i kdX12_status_0 5 rfl
theorem dX12_status_10 : decode cX12_status 10 = .ok (.getfield 153, 3) := dk_i kdX12_status_0 6 rfl
theorem dX12_status_13 : decode cX12_status 13 = .ok (.iload_n 1, 1) := dk_i kdX12_status_0 7 rfl
theorem dX12_status_14 : decode cX12_status 14 = .ok (.iaload, 1) := dk_i kdX12_status_0 8 rfl
theorem dX12_status_15 : decode cX12_status 15 = .ok (.goto 4, 3) := dk_i kdX12_status_0 9 rfl
theorem dX12_status_18 : decode cX12_status 18 = .ok (.iconst (-1), 1) := dk_i kdX12_status_0 10 rfl
theorem dX12_status_19 : decode cX12_status 19 = .ok (.ireturn, 1) := dk_i kdX12_status_0 11 rfl
def ldX12_copies_0 : List (Nat × ClassFile.Instr × Nat) := [(0, .aload_n 0, 1), (1, .getfield 156, 3), (4, .iload_n 1, 1), (5, .aload_n 0, 1), (6, .getfield 156, 3), (9, .iload_n 2, 1), (10, .iaload, 1), (11, .iastore, 1), (12, .aload_n 0, 1), (13, .getfield 165, 3), (16, .iload_n 1, 1), (17, .aload_n 0, 1), (18, .getfield 165, 3), (21, .iload_n 2, 1), (22, .iaload, 1), (23, .iastore, 1)]
theorem kdX12_copies_0 : dkO cX12_copies 0 ldX12_copies_0 = true := by decide +kernel
theorem dX12_copies_0 : decode cX12_copies 0 = .ok (.aload_n 0, 1) := dk_i kdX12_copies_0 0 rfl
theorem dX12_copies_1 : decode cX12_copies 1 = .ok (.getfield 156, 3) := dk_i kdX12_copies_0 1 rfl
theorem dX12_copies_4 : decode cX12_copies 4 = .ok (.iload_n 1, 1) := dk_i kdX12_copies_0 2 rfl
theorem dX12_copies_5 : decode cX12_copies 5 = .ok (.aload_n 0, 1) := dk_i kdX12_copies_0 3 rfl
theorem dX12_copies_6 : decode cX12_copies 6 = .ok (.getfield 156, 3) := dk_i kdX12_copies_0 4 rfl
theorem dX12_copies_9 : decode cX12_copies 9 = .ok (.iload_n 2, 1) := dk_i kdX12_copies_0 5 rfl
theorem dX12_copies_10 : decode cX12_copies 10 = .ok (.iaload, 1) := dk_i kdX12_copies_0 6 rfl
theorem dX12_copies_11 : decode cX12_copies 11 = .ok (.iastore, 1) := dk_i kdX12_copies_0 7 rfl
theorem dX12_copies_12 : decode cX12_copies 12 = .ok (.aload_n 0, 1) := dk_i kdX12_copies_0 8 rfl
theorem dX12_copies_13 : decode cX12_copies 13 = .ok (.getfield 165, 3) := dk_i kdX12_copies_0 9 rfl
theorem dX12_copies_16 : decode cX12_copies 16 = .ok (.iload_n 1, 1) := dk_i kdX12_copies_0 10 rfl
theorem dX12_copies_17 : decode cX12_copies 17 = .ok (.aload_n 0, 1) := dk_i kdX12_copies_0 11 rfl
theorem dX12_copies_18 : decode cX12_copies 18 = .ok (.getfield 165, 3) := dk_i kdX12_copies_0 12 rfl
theorem dX12_copies_21 : decode cX12_copies 21 = .ok (.iload_n 2, 1) := dk_i kdX12_copies_0 13 rfl
theorem dX12_copies_22 : decode cX12_copies 22 = .ok (.iaload, 1) := dk_i kdX12_copies_0 14 rfl
theorem dX12_copies_23 : decode cX12_copies 23 = .ok (.iastore, 1) := dk_i kdX12_copies_0 15 rfl
def ldX12_copies_24 : List (Nat × ClassFile.Instr × Nat) := [(24, .iconst 0, 1), (25, .istore_n 3, 1), (26, .iload_n 3, 1), (27, .iconst 5, 1), (28, .if_icmp .ge 49, 3), (31, .aload_n 0, 1), (32, .getfield 159, 3), (35, .iconst 5, 1), (36, .iload_n 1, 1), (37, .imul, 1), (38, .iload_n 3, 1), (39, .iadd, 1), (40, .aload_n 0, 1), (41, .getfield 159, 3), (44, .iconst 5, 1), (45, .iload_n 2, 1)]
theorem kdX12_copies_24 : dkO cX12_copies 24 ldX12_copies_24 = true := by decide +kernel
theorem dX12_copies_24 : decode cX12_copies 24 = .ok (.iconst 0, 1) := dk_i kdX12_copies_24 0 rfl
theorem dX12_copies_25 : decode cX12_copies 25 = .ok (.istore_n 3, 1) := dk_i kdX12_copies_24 1 rfl
theorem dX12_copies_26 : decode cX12_copies 26 = .ok (.iload_n 3, 1) := dk_i kdX12_copies_24 2 rfl
theorem dX12_copies_27 : decode cX12_copies 27 = .ok (.iconst 5, 1) := dk_i kdX12_copies_24 3 rfl
theorem dX12_copies_28 : decode cX12_copies 28 = .ok (.if_icmp .ge 49, 3) := dk_i kdX12_copies_24 4 rfl
theorem dX12_copies_31 : decode cX12_copies 31 = .ok (.aload_n 0, 1) := dk_i kdX12_copies_24 5 rfl
theorem dX12_copies_32 : decode cX12_copies 32 = .ok (.getfield 159, 3) := dk_i kdX12_copies_24 6 rfl
theorem dX12_copies_35 : decode cX12_copies 35 = .ok (.iconst 5, 1) := dk_i kdX12_copies_24 7 rfl
theorem dX12_copies_36 : decode cX12_copies 36 = .ok (.iload_n 1, 1) := dk_i kdX12_copies_24 8 rfl
theorem dX12_copies_37 : decode cX12_copies 37 = .ok (.imul, 1) := dk_i kdX12_copies_24 9 rfl
theorem dX12_copies_38 : decode cX12_copies 38 = .ok (.iload_n 3, 1) := dk_i kdX12_copies_24 10 rfl
theorem dX12_copies_39 : decode cX12_copies 39 = .ok (.iadd, 1) := dk_i kdX12_copies_24 11 rfl
theorem dX12_copies_40 : decode cX12_copies 40 = .ok (.aload_n 0, 1) := dk_i kdX12_copies_24 12 rfl
theorem dX12_copies_41 : decode cX12_copies 41 = .ok (.getfield 159, 3) := dk_i kdX12_copies_24 13 rfl
theorem dX12_copies_44 : decode cX12_copies 44 = .ok (.iconst 5, 1) := dk_i kdX12_copies_24 14 rfl
theorem dX12_copies_45 : decode cX12_copies 45 = .ok (.iload_n 2, 1) := dk_i kdX12_copies_24 15 rfl
def ldX12_copies_46 : List (Nat × ClassFile.Instr × Nat) := [(46, .imul, 1), (47, .iload_n 3, 1), (48, .iadd, 1), (49, .iaload, 1), (50, .iastore, 1), (51, .aload_n 0, 1), (52, .getfield 162, 3), (55, .iconst 5, 1), (56, .iload_n 1, 1), (57, .imul, 1), (58, .iload_n 3, 1), (59, .iadd, 1), (60, .aload_n 0, 1), (61, .getfield 162, 3), (64, .iconst 5, 1), (65, .iload_n 2, 1)]
theorem kdX12_copies_46 : dkO cX12_copies 46 ldX12_copies_46 = true := by decide +kernel
theorem dX12_copies_46 : decode cX12_copies 46 = .ok (.imul, 1) := dk_i kdX12_copies_46 0 rfl
theorem dX12_copies_47 : decode cX12_copies 47 = .ok (.iload_n 3, 1) := dk_i kdX12_copies_46 1 rfl
theorem dX12_copies_48 : decode cX12_copies 48 = .ok (.iadd, 1) := dk_i kdX12_copies_46 2 rfl
theorem dX12_copies_49 : decode cX12_copies 49 = .ok (.iaload, 1) := dk_i kdX12_copies_46 3 rfl
theorem dX12_copies_50 : decode cX12_copies 50 = .ok (.iastore, 1) := dk_i kdX12_copies_46 4 rfl
theorem dX12_copies_51 : decode cX12_copies 51 = .ok (.aload_n 0, 1) := dk_i kdX12_copies_46 5 rfl
theorem dX12_copies_52 : decode cX12_copies 52 = .ok (.getfield 162, 3) := dk_i kdX12_copies_46 6 rfl
theorem dX12_copies_55 : decode cX12_copies 55 = .ok (.iconst 5, 1) := dk_i kdX12_copies_46 7 rfl
theorem dX12_copies_56 : decode cX12_copies 56 = .ok (.iload_n 1, 1) := dk_i kdX12_copies_46 8 rfl
theorem dX12_copies_57 : decode cX12_copies 57 = .ok (.imul, 1) := dk_i kdX12_copies_46 9 rfl
theorem dX12_copies_58 : decode cX12_copies 58 = .ok (.iload_n 3, 1) := dk_i kdX12_copies_46 10 rfl
theorem dX12_copies_59 : decode cX12_copies 59 = .ok (.iadd, 1) := dk_i kdX12_copies_46 11 rfl
theorem dX12_copies_60 : decode cX12_copies 60 = .ok (.aload_n 0, 1) := dk_i kdX12_copies_46 12 rfl
theorem dX12_copies_61 : decode cX12_copies 61 = .ok (.getfield 162, 3) := dk_i kdX12_copies_46 13 rfl
theorem dX12_copies_64 : decode cX12_copies 64 = .ok (.iconst 5, 1) := dk_i kdX12_copies_46 14 rfl
theorem dX12_copies_65 : decode cX12_copies 65 = .ok (.iload_n 2, 1) := dk_i kdX12_copies_46 15 rfl
def ldX12_copies_66 : List (Nat × ClassFile.Instr × Nat) := [(66, .imul, 1), (67, .iload_n 3, 1), (68, .iadd, 1), (69, .iaload, 1), (70, .iastore, 1), (71, .iinc 3 1, 3), (74, .goto (-48), 3), (77, .aload_n 0, 1), (78, .getfield 168, 3), (81, .iload_n 1, 1), (82, .aload_n 0, 1), (83, .getfield 168, 3), (86, .iload_n 2, 1), (87, .iaload, 1), (88, .iastore, 1), (89, .iconst 0, 1)]
theorem kdX12_copies_66 : dkO cX12_copies 66 ldX12_copies_66 = true := by decide +kernel
theorem dX12_copies_66 : decode cX12_copies 66 = .ok (.imul, 1) := dk_i kdX12_copies_66 0 rfl
theorem dX12_copies_67 : decode cX12_copies 67 = .ok (.iload_n 3, 1) := dk_i kdX12_copies_66 1 rfl
theorem dX12_copies_68 : decode cX12_copies 68 = .ok (.iadd, 1) := dk_i kdX12_copies_66 2 rfl
theorem dX12_copies_69 : decode cX12_copies 69 = .ok (.iaload, 1) := dk_i kdX12_copies_66 3 rfl
theorem dX12_copies_70 : decode cX12_copies 70 = .ok (.iastore, 1) := dk_i kdX12_copies_66 4 rfl
theorem dX12_copies_71 : decode cX12_copies 71 = .ok (.iinc 3 1, 3) := dk_i kdX12_copies_66 5 rfl
theorem dX12_copies_74 : decode cX12_copies 74 = .ok (.goto (-48), 3) := dk_i kdX12_copies_66 6 rfl
theorem dX12_copies_77 : decode cX12_copies 77 = .ok (.aload_n 0, 1) := dk_i kdX12_copies_66 7 rfl
theorem dX12_copies_78 : decode cX12_copies 78 = .ok (.getfield 168, 3) := dk_i kdX12_copies_66 8 rfl
theorem dX12_copies_81 : decode cX12_copies 81 = .ok (.iload_n 1, 1) := dk_i kdX12_copies_66 9 rfl
theorem dX12_copies_82 : decode cX12_copies 82 = .ok (.aload_n 0, 1) := dk_i kdX12_copies_66 10 rfl
theorem dX12_copies_83 : decode cX12_copies 83 = .ok (.getfield 168, 3) := dk_i kdX12_copies_66 11 rfl
theorem dX12_copies_86 : decode cX12_copies 86 = .ok (.iload_n 2, 1) := dk_i kdX12_copies_66 12 rfl
theorem dX12_copies_87 : decode cX12_copies 87 = .ok (.iaload, 1) := dk_i kdX12_copies_66 13 rfl
theorem dX12_copies_88 : decode cX12_copies 88 = .ok (.iastore, 1) := dk_i kdX12_copies_66 14 rfl
theorem dX12_copies_89 : decode cX12_copies 89 = .ok (.iconst 0, 1) := dk_i kdX12_copies_66 15 rfl
def ldX12_copies_90 : List (Nat × ClassFile.Instr × Nat) := [(90, .istore_n 3, 1), (91, .iload_n 3, 1), (92, .iconst 2, 1), (93, .aload_n 0, 1), (94, .getfield 168, 3), (97, .iload_n 2, 1), (98, .iaload, 1), (99, .imul, 1), (100, .if_icmp .ge 31, 3), (103, .aload_n 0, 1), (104, .getfield 171, 3), (107, .bipush 80, 2), (109, .iload_n 1, 1), (110, .imul, 1), (111, .iload_n 3, 1), (112, .iadd, 1)]
theorem kdX12_copies_90 : dkO cX12_copies 90 ldX12_copies_90 = true := by decide +kernel
theorem dX12_copies_90 : decode cX12_copies 90 = .ok (.istore_n 3, 1) := dk_i kdX12_copies_90 0 rfl
theorem dX12_copies_91 : decode cX12_copies 91 = .ok (.iload_n 3, 1) := dk_i kdX12_copies_90 1 rfl
theorem dX12_copies_92 : decode cX12_copies 92 = .ok (.iconst 2, 1) := dk_i kdX12_copies_90 2 rfl
theorem dX12_copies_93 : decode cX12_copies 93 = .ok (.aload_n 0, 1) := dk_i kdX12_copies_90 3 rfl
theorem dX12_copies_94 : decode cX12_copies 94 = .ok (.getfield 168, 3) := dk_i kdX12_copies_90 4 rfl
theorem dX12_copies_97 : decode cX12_copies 97 = .ok (.iload_n 2, 1) := dk_i kdX12_copies_90 5 rfl
theorem dX12_copies_98 : decode cX12_copies 98 = .ok (.iaload, 1) := dk_i kdX12_copies_90 6 rfl
theorem dX12_copies_99 : decode cX12_copies 99 = .ok (.imul, 1) := dk_i kdX12_copies_90 7 rfl
theorem dX12_copies_100 : decode cX12_copies 100 = .ok (.if_icmp .ge 31, 3) := dk_i kdX12_copies_90 8 rfl
theorem dX12_copies_103 : decode cX12_copies 103 = .ok (.aload_n 0, 1) := dk_i kdX12_copies_90 9 rfl
theorem dX12_copies_104 : decode cX12_copies 104 = .ok (.getfield 171, 3) := dk_i kdX12_copies_90 10 rfl
theorem dX12_copies_107 : decode cX12_copies 107 = .ok (.bipush 80, 2) := dk_i kdX12_copies_90 11 rfl
theorem dX12_copies_109 : decode cX12_copies 109 = .ok (.iload_n 1, 1) := dk_i kdX12_copies_90 12 rfl
theorem dX12_copies_110 : decode cX12_copies 110 = .ok (.imul, 1) := dk_i kdX12_copies_90 13 rfl
theorem dX12_copies_111 : decode cX12_copies 111 = .ok (.iload_n 3, 1) := dk_i kdX12_copies_90 14 rfl
theorem dX12_copies_112 : decode cX12_copies 112 = .ok (.iadd, 1) := dk_i kdX12_copies_90 15 rfl
def ldX12_copies_113 : List (Nat × ClassFile.Instr × Nat) := [(113, .aload_n 0, 1), (114, .getfield 171, 3), (117, .bipush 80, 2), (119, .iload_n 2, 1), (120, .imul, 1), (121, .iload_n 3, 1), (122, .iadd, 1), (123, .iaload, 1), (124, .iastore, 1), (125, .iinc 3 1, 3), (128, .goto (-37), 3), (131, .return_, 1)]
theorem kdX12_copies_113 : dkO cX12_copies 113 ldX12_copies_113 = true := by decide +kernel
theorem dX12_copies_113 : decode cX12_copies 113 = .ok (.aload_n 0, 1) := dk_i kdX12_copies_113 0 rfl
theorem dX12_copies_114 : decode cX12_copies 114 = .ok (.getfield 171, 3) := dk_i kdX12_copies_113 1 rfl
theorem dX12_copies_117 : decode cX12_copies 117 = .ok (.bipush 80, 2) := dk_i kdX12_copies_113 2 rfl
theorem dX12_copies_119 : decode cX12_copies 119 = .ok (.iload_n 2, 1) := dk_i kdX12_copies_113 3 rfl
theorem dX12_copies_120 : decode cX12_copies 120 = .ok (.imul, 1) := dk_i kdX12_copies_113 4 rfl
theorem dX12_copies_121 : decode cX12_copies 121 = .ok (.iload_n 3, 1) := dk_i kdX12_copies_113 5 rfl
theorem dX12_copies_122 : decode cX12_copies 122 = .ok (.iadd, 1) := dk_i kdX12_copies_113 6 rfl
theorem dX12_copies_123 : decode cX12_copies 123 = .ok (.iaload, 1) := dk_i kdX12_copies_113 7 rfl
theorem dX12_copies_124 : decode cX12_copies 124 = .ok (.iastore, 1) := dk_i kdX12_copies_113 8 rfl
theorem dX12_copies_125 : decode cX12_copies 125 = .ok (.iinc 3 1, 3) := dk_i kdX12_copies_113 9 rfl
theorem dX12_copies_128 : decode cX12_copies 128 = .ok (.goto (-37), 3) := dk_i kdX12_copies_113 10 rfl
theorem dX12_copies_131 : decode cX12_copies 131 = .ok (.return_, 1) := dk_i kdX12_copies_113 11 rfl
def ldX12_begin_0 : List (Nat × ClassFile.Instr × Nat) := [(0, .aload_n 0, 1), (1, .getfield 156, 3), (4, .iconst 0, 1), (5, .iconst 0, 1), (6, .iastore, 1), (7, .aload_n 0, 1), (8, .getfield 165, 3), (11, .iconst 0, 1), (12, .iconst 0, 1), (13, .iastore, 1), (14, .iconst 0, 1), (15, .istore_n 1, 1), (16, .iload_n 1, 1), (17, .aload_n 0, 1), (18, .getfield 63, 3), (21, .aload_n 0, 1)]
theorem kdX12_begin_0 : dkO cX12_begin 0 ldX12_begin_0 = true := by decide +kernel
theorem dX12_begin_0 : decode cX12_begin 0 = .ok (.aload_n 0, 1) := dk_i kdX12_begin_0 0 rfl
theorem dX12_begin_1 : decode cX12_begin 1 = .ok (.getfield 156, 3) := dk_i kdX12_begin_0 1 rfl
theorem dX12_begin_4 : decode cX12_begin 4 = .ok (.iconst 0, 1) := dk_i kdX12_begin_0 2 rfl
theorem dX12_begin_5 : decode cX12_begin 5 = .ok (.iconst 0, 1) := dk_i kdX12_begin_0 3 rfl
theorem dX12_begin_6 : decode cX12_begin 6 = .ok (.iastore, 1) := dk_i kdX12_begin_0 4 rfl
theorem dX12_begin_7 : decode cX12_begin 7 = .ok (.aload_n 0, 1) := dk_i kdX12_begin_0 5 rfl
theorem dX12_begin_8 : decode cX12_begin 8 = .ok (.getfield 165, 3) := dk_i kdX12_begin_0 6 rfl
theorem dX12_begin_11 : decode cX12_begin 11 = .ok (.iconst 0, 1) := dk_i kdX12_begin_0 7 rfl
theorem dX12_begin_12 : decode cX12_begin 12 = .ok (.iconst 0, 1) := dk_i kdX12_begin_0 8 rfl
theorem dX12_begin_13 : decode cX12_begin 13 = .ok (.iastore, 1) := dk_i kdX12_begin_0 9 rfl
theorem dX12_begin_14 : decode cX12_begin 14 = .ok (.iconst 0, 1) := dk_i kdX12_begin_0 10 rfl
theorem dX12_begin_15 : decode cX12_begin 15 = .ok (.istore_n 1, 1) := dk_i kdX12_begin_0 11 rfl
theorem dX12_begin_16 : decode cX12_begin 16 = .ok (.iload_n 1, 1) := dk_i kdX12_begin_0 12 rfl
theorem dX12_begin_17 : decode cX12_begin 17 = .ok (.aload_n 0, 1) := dk_i kdX12_begin_0 13 rfl
theorem dX12_begin_18 : decode cX12_begin 18 = .ok (.getfield 63, 3) := dk_i kdX12_begin_0 14 rfl
theorem dX12_begin_21 : decode cX12_begin 21 = .ok (.aload_n 0, 1) := dk_i kdX12_begin_0 15 rfl
def ldX12_begin_22 : List (Nat × ClassFile.Instr × Nat) := [(22, .getfield 51, 3), (25, .iaload, 1), (26, .if_icmp .ge 35, 3), (29, .aload_n 0, 1), (30, .getfield 159, 3), (33, .iload_n 1, 1), (34, .aload_n 0, 1), (35, .getfield 66, 3), (38, .iconst 5, 1), (39, .aload_n 0, 1), (40, .getfield 51, 3), (43, .imul, 1), (44, .iload_n 1, 1), (45, .iadd, 1), (46, .iaload, 1), (47, .iastore, 1)]
theorem kdX12_begin_22 : dkO cX12_begin 22 ldX12_begin_22 = true := by decide +kernel
theorem dX12_begin_22 : decode cX12_begin 22 = .ok (.getfield 51, 3) := dk_i kdX12_begin_22 0 rfl
theorem dX12_begin_25 : decode cX12_begin 25 = .ok (.iaload, 1) := dk_i kdX12_begin_22 1 rfl
theorem dX12_begin_26 : decode cX12_begin 26 = .ok (.if_icmp .ge 35, 3) := dk_i kdX12_begin_22 2 rfl
theorem dX12_begin_29 : decode cX12_begin 29 = .ok (.aload_n 0, 1) := dk_i kdX12_begin_22 3 rfl
theorem dX12_begin_30 : decode cX12_begin 30 = .ok (.getfield 159, 3) := dk_i kdX12_begin_22 4 rfl
theorem dX12_begin_33 : decode cX12_begin 33 = .ok (.iload_n 1, 1) := dk_i kdX12_begin_22 5 rfl
theorem dX12_begin_34 : decode cX12_begin 34 = .ok (.aload_n 0, 1) := dk_i kdX12_begin_22 6 rfl
theorem dX12_begin_35 : decode cX12_begin 35 = .ok (.getfield 66, 3) := dk_i kdX12_begin_22 7 rfl
theorem dX12_begin_38 : decode cX12_begin 38 = .ok (.iconst 5, 1) := dk_i kdX12_begin_22 8 rfl
theorem dX12_begin_39 : decode cX12_begin 39 = .ok (.aload_n 0, 1) := dk_i kdX12_begin_22 9 rfl
theorem dX12_begin_40 : decode cX12_begin 40 = .ok (.getfield 51, 3) := dk_i kdX12_begin_22 10 rfl
theorem dX12_begin_43 : decode cX12_begin 43 = .ok (.imul, 1) := dk_i kdX12_begin_22 11 rfl
theorem dX12_begin_44 : decode cX12_begin 44 = .ok (.iload_n 1, 1) := dk_i kdX12_begin_22 12 rfl
theorem dX12_begin_45 : decode cX12_begin 45 = .ok (.iadd, 1) := dk_i kdX12_begin_22 13 rfl
theorem dX12_begin_46 : decode cX12_begin 46 = .ok (.iaload, 1) := dk_i kdX12_begin_22 14 rfl
theorem dX12_begin_47 : decode cX12_begin 47 = .ok (.iastore, 1) := dk_i kdX12_begin_22 15 rfl
def ldX12_begin_48 : List (Nat × ClassFile.Instr × Nat) := [(48, .aload_n 0, 1), (49, .getfield 162, 3), (52, .iload_n 1, 1), (53, .iconst 0, 1), (54, .iastore, 1), (55, .iinc 1 1, 3), (58, .goto (-42), 3), (61, .aload_n 0, 1), (62, .getfield 168, 3), (65, .iconst 0, 1), (66, .iconst 0, 1), (67, .iastore, 1), (68, .aload_n 0, 1), (69, .iconst 0, 1), (70, .putfield 177, 3), (73, .aload_n 0, 1)]
theorem kdX12_begin_48 : dkO cX12_begin 48 ldX12_begin_48 = true := by decide +kernel
theorem dX12_begin_48 : decode cX12_begin 48 = .ok (.aload_n 0, 1) := dk_i kdX12_begin_48 0 rfl
theorem dX12_begin_49 : decode cX12_begin 49 = .ok (.getfield 162, 3) := dk_i kdX12_begin_48 1 rfl
theorem dX12_begin_52 : decode cX12_begin 52 = .ok (.iload_n 1, 1) := dk_i kdX12_begin_48 2 rfl
theorem dX12_begin_53 : decode cX12_begin 53 = .ok (.iconst 0, 1) := dk_i kdX12_begin_48 3 rfl
theorem dX12_begin_54 : decode cX12_begin 54 = .ok (.iastore, 1) := dk_i kdX12_begin_48 4 rfl
theorem dX12_begin_55 : decode cX12_begin 55 = .ok (.iinc 1 1, 3) := dk_i kdX12_begin_48 5 rfl
theorem dX12_begin_58 : decode cX12_begin 58 = .ok (.goto (-42), 3) := dk_i kdX12_begin_48 6 rfl
theorem dX12_begin_61 : decode cX12_begin 61 = .ok (.aload_n 0, 1) := dk_i kdX12_begin_48 7 rfl
theorem dX12_begin_62 : decode cX12_begin 62 = .ok (.getfield 168, 3) := dk_i kdX12_begin_48 8 rfl
theorem dX12_begin_65 : decode cX12_begin 65 = .ok (.iconst 0, 1) := dk_i kdX12_begin_48 9 rfl
theorem dX12_begin_66 : decode cX12_begin 66 = .ok (.iconst 0, 1) := dk_i kdX12_begin_48 10 rfl
theorem dX12_begin_67 : decode cX12_begin 67 = .ok (.iastore, 1) := dk_i kdX12_begin_48 11 rfl
theorem dX12_begin_68 : decode cX12_begin 68 = .ok (.aload_n 0, 1) := dk_i kdX12_begin_48 12 rfl
theorem dX12_begin_69 : decode cX12_begin 69 = .ok (.iconst 0, 1) := dk_i kdX12_begin_48 13 rfl
theorem dX12_begin_70 : decode cX12_begin 70 = .ok (.putfield 177, 3) := dk_i kdX12_begin_48 14 rfl
theorem dX12_begin_73 : decode cX12_begin 73 = .ok (.aload_n 0, 1) := dk_i kdX12_begin_48 15 rfl
def ldX12_begin_74 : List (Nat × ClassFile.Instr × Nat) := [(74, .iconst 0, 1), (75, .putfield 198, 3), (78, .aload_n 0, 1), (79, .iconst 0, 1), (80, .invokevirtual 412, 3)]
theorem kdX12_begin_74 : dkO cX12_begin 74 ldX12_begin_74 = true := by decide +kernel
theorem dX12_begin_74 : decode cX12_begin 74 = .ok (.iconst 0, 1) := dk_i kdX12_begin_74 0 rfl
theorem dX12_begin_75 : decode cX12_begin 75 = .ok (.putfield 198, 3) := dk_i kdX12_begin_74 1 rfl
theorem dX12_begin_78 : decode cX12_begin 78 = .ok (.aload_n 0, 1) := dk_i kdX12_begin_74 2 rfl
theorem dX12_begin_79 : decode cX12_begin 79 = .ok (.iconst 0, 1) := dk_i kdX12_begin_74 3 rfl
theorem dX12_begin_80 : decode cX12_begin 80 = .ok (.invokevirtual 412, 3) := dk_i kdX12_begin_74 4 rfl
