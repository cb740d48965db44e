theorem dL_law_296 : decode code 296 = .ok (.iconst 1, 1) := by decide +kernel
theorem dL_law_297 : decode code 297 = .ok (.iadd, 1) := by decide +kernel
theorem dL_law_298 : decode code 298 = .ok (.iaload, 1) := by decide +kernel
theorem dL_law_299 : decode code 299 = .ok (.aload_n 3, 1) := by decide +kernel
theorem dL_law_300 : decode code 300 = .ok (.invokestatic 117, 3) := by decide +kernel
theorem dL_law_303 : decode code 303 = .ok (.istore 5, 2) := by decide +kernel
theorem dL_law_305 : decode code 305 = .ok (.aload_n 2, 1) := by decide +kernel
theorem dL_law_306 : decode code 306 = .ok (.aload_n 0, 1) := by decide +kernel
theorem dL_law_307 : decode code 307 = .ok (.iload 4, 2) := by decide +kernel
theorem dL_law_309 : decode code 309 = .ok (.iconst 1, 1) := by decide +kernel
theorem dL_law_310 : decode code 310 = .ok (.iadd, 1) := by decide +kernel
theorem dL_law_311 : decode code 311 = .ok (.iaload, 1) := by decide +kernel
theorem dL_law_312 : decode code 312 = .ok (.invokevirtual 120, 3) := by decide +kernel
theorem dL_law_315 : decode code 315 = .ok (.istore 6, 2) := by decide +kernel
theorem dL_law_317 : decode code 317 = .ok (.aload_n 2, 1) := by decide +kernel
theorem dL_law_318 : decode code 318 = .ok (.invokevirtual 106, 3) := by decide +kernel
theorem dL_law_321 : decode code 321 = .ok (.iload 5, 2) := by decide +kernel
theorem dL_law_323 : decode code 323 = .ok (.if_icmp .eq 5, 3) := by decide +kernel
theorem dL_law_326 : decode code 326 = .ok (.iconst 0, 1) := by decide +kernel
theorem dL_law_327 : decode code 327 = .ok (.ireturn, 1) := by decide +kernel
theorem dL_law_328 : decode code 328 = .ok (.iload 5, 2) := by decide +kernel
theorem dL_law_330 : decode code 330 = .ok (.ifCond .ne 15, 3) := by decide +kernel
theorem dL_law_333 : decode code 333 = .ok (.aload_n 3, 1) := by decide +kernel
theorem dL_law_334 : decode code 334 = .ok (.iconst 0, 1) := by decide +kernel
theorem dL_law_335 : decode code 335 = .ok (.laload, 1) := by decide +kernel
theorem dL_law_336 : decode code 336 = .ok (.iload 6, 2) := by decide +kernel
theorem dL_law_338 : decode code 338 = .ok (.i2l, 1) := by decide +kernel
theorem dL_law_339 : decode code 339 = .ok (.lcmp, 1) := by decide +kernel
theorem dL_law_340 : decode code 340 = .ok (.ifCond .eq 5, 3) := by decide +kernel
theorem dL_law_343 : decode code 343 = .ok (.iconst 0, 1) := by decide +kernel
theorem dL_law_344 : decode code 344 = .ok (.ireturn, 1) := by decide +kernel
theorem dL_law_345 : decode code 345 = .ok (.goto 1333, 3) := by decide +kernel
theorem dL_law_348 : decode code 348 = .ok (.aload_n 1, 1) := by decide +kernel
theorem dL_law_349 : decode code 349 = .ok (.aload_n 0, 1) := by decide +kernel
theorem dL_law_350 : decode code 350 = .ok (.iload 4, 2) := by decide +kernel
theorem dL_law_352 : decode code 352 = .ok (.iconst 1, 1) := by decide +kernel
theorem dL_law_353 : decode code 353 = .ok (.iadd, 1) := by decide +kernel
theorem dL_law_354 : decode code 354 = .ok (.iaload, 1) := by decide +kernel
theorem dL_law_355 : decode code 355 = .ok (.aload_n 3, 1) := by decide +kernel
theorem dL_law_356 : decode code 356 = .ok (.invokestatic 121, 3) := by decide +kernel
theorem dL_law_359 : decode code 359 = .ok (.istore 5, 2) := by decide +kernel
theorem dL_law_361 : decode code 361 = .ok (.aload_n 2, 1) := by decide +kernel
theorem dL_law_362 : decode code 362 = .ok (.aload_n 0, 1) := by decide +kernel
theorem dL_law_363 : decode code 363 = .ok (.iload 4, 2) := by decide +kernel
theorem dL_law_365 : decode code 365 = .ok (.iconst 1, 1) := by decide +kernel
theorem dL_law_366 : decode code 366 = .ok (.iadd, 1) := by decide +kernel
theorem dL_law_367 : decode code 367 = .ok (.iaload, 1) := by decide +kernel
theorem dL_law_368 : decode code 368 = .ok (.invokevirtual 123, 3) := by decide +kernel
theorem dL_law_371 : decode code 371 = .ok (.istore 6, 2) := by decide +kernel
theorem dL_law_373 : decode code 373 = .ok (.aload_n 2, 1) := by decide +kernel
theorem dL_law_374 : decode code 374 = .ok (.invokevirtual 106, 3) := by decide +kernel
theorem dL_law_377 : decode code 377 = .ok (.iload 5, 2) := by decide +kernel
theorem dL_law_379 : decode code 379 = .ok (.if_icmp .eq 5, 3) := by decide +kernel
theorem dL_law_382 : decode code 382 = .ok (.iconst 0, 1) := by decide +kernel
theorem dL_law_383 : decode code 383 = .ok (.ireturn, 1) := by decide +kernel
theorem dL_law_384 : decode code 384 = .ok (.iload 5, 2) := by decide +kernel
theorem dL_law_386 : decode code 386 = .ok (.ifCond .ne 15, 3) := by decide +kernel
theorem dL_law_389 : decode code 389 = .ok (.aload_n 3, 1) := by decide +kernel
theorem dL_law_390 : decode code 390 = .ok (.iconst 0, 1) := by decide +kernel
theorem dL_law_391 : decode code 391 = .ok (.laload, 1) := by decide +kernel
theorem dL_law_392 : decode code 392 = .ok (.iload 6, 2) := by decide +kernel
theorem dL_law_394 : decode code 394 = .ok (.i2l, 1) := by decide +kernel
theorem dL_law_395 : decode code 395 = .ok (.lcmp, 1) := by decide +kernel
theorem dL_law_396 : decode code 396 = .ok (.ifCond .eq 5, 3) := by decide +kernel
theorem dL_law_399 : decode code 399 = .ok (.iconst 0, 1) := by decide +kernel
theorem dL_law_400 : decode code 400 = .ok (.ireturn, 1) := by decide +kernel
theorem dL_law_401 : decode code 401 = .ok (.goto 1277, 3) := by decide +kernel
theorem dL_law_404 : decode code 404 = .ok (.aload_n 1, 1) := by decide +kernel
theorem dL_law_405 : decode code 405 = .ok (.aload_n 0, 1) := by decide +kernel
theorem dL_law_406 : decode code 406 = .ok (.iload 4, 2) := by decide +kernel
theorem dL_law_408 : decode code 408 = .ok (.iconst 1, 1) := by decide +kernel
theorem dL_law_409 : decode code 409 = .ok (.iadd, 1) := by decide +kernel
theorem dL_law_410 : decode code 410 = .ok (.iaload, 1) := by decide +kernel
theorem dL_law_411 : decode code 411 = .ok (.aload_n 0, 1) := by decide +kernel
theorem dL_law_412 : decode code 412 = .ok (.iload 4, 2) := by decide +kernel
theorem dL_law_414 : decode code 414 = .ok (.iconst 2, 1) := by decide +kernel
theorem dL_law_415 : decode code 415 = .ok (.iadd, 1) := by decide +kernel
theorem dL_law_416 : decode code 416 = .ok (.iaload, 1) := by decide +kernel
theorem dL_law_417 : decode code 417 = .ok (.aload_n 0, 1) := by decide +kernel
theorem dL_law_418 : decode code 418 = .ok (.iload 4, 2) := by decide +kernel
theorem dL_law_420 : decode code 420 = .ok (.iconst 3, 1) := by decide +kernel
theorem dL_law_421 : decode code 421 = .ok (.iadd, 1) := by decide +kernel
theorem dL_law_422 : decode code 422 = .ok (.iaload, 1) := by decide +kernel
theorem dL_law_423 : decode code 423 = .ok (.i2l, 1) := by decide +kernel
theorem dL_law_424 : decode code 424 = .ok (.bipush 32, 2) := by decide +kernel
theorem dL_law_426 : decode code 426 = .ok (.lshl, 1) := by decide +kernel
theorem dL_law_427 : decode code 427 = .ok (.aload_n 0, 1) := by decide +kernel
theorem dL_law_428 : decode code 428 = .ok (.iload 4, 2) := by decide +kernel
theorem dL_law_430 : decode code 430 = .ok (.iconst 4, 1) := by decide +kernel
theorem dL_law_431 : decode code 431 = .ok (.iadd, 1) := by decide +kernel
theorem dL_law_432 : decode code 432 = .ok (.iaload, 1) := by decide +kernel
theorem dL_law_433 : decode code 433 = .ok (.i2l, 1) := by decide +kernel
theorem dL_law_434 : decode code 434 = .ok (.ldc2_w 124, 3) := by decide +kernel
theorem dL_law_437 : decode code 437 = .ok (.land, 1) := by decide +kernel
theorem dL_law_438 : decode code 438 = .ok (.lor, 1) := by decide +kernel
theorem dL_law_439 : decode code 439 = .ok (.aload_n 3, 1) := by decide +kernel
theorem dL_law_440 : decode code 440 = .ok (.invokestatic 126, 3) := by decide +kernel
theorem dL_law_443 : decode code 443 = .ok (.istore 5, 2) := by decide +kernel
theorem dL_law_445 : decode code 445 = .ok (.aload_n 2, 1) := by decide +kernel
theorem dL_law_446 : decode code 446 = .ok (.aload_n 0, 1) := by decide +kernel
theorem dL_law_447 : decode code 447 = .ok (.iload 4, 2) := by decide +kernel
theorem dL_law_449 : decode code 449 = .ok (.iconst 1, 1) := by decide +kernel
theorem dL_law_450 : decode code 450 = .ok (.iadd, 1) := by decide +kernel
theorem dL_law_451 : decode code 451 = .ok (.iaload, 1) := by decide +kernel
theorem dL_law_452 : decode code 452 = .ok (.aload_n 0, 1) := by decide +kernel
theorem dL_law_453 : decode code 453 = .ok (.iload 4, 2) := by decide +kernel
theorem dL_law_455 : decode code 455 = .ok (.iconst 2, 1) := by decide +kernel
theorem dL_law_456 : decode code 456 = .ok (.iadd, 1) := by decide +kernel
theorem dL_law_457 : decode code 457 = .ok (.iaload, 1) := by decide +kernel
theorem dL_law_458 : decode code 458 = .ok (.aload_n 0, 1) := by decide +kernel
theorem dL_law_459 : decode code 459 = .ok (.iload 4, 2) := by decide +kernel
theorem dL_law_461 : decode code 461 = .ok (.iconst 3, 1) := by decide +kernel
theorem dL_law_462 : decode code 462 = .ok (.iadd, 1) := by decide +kernel
theorem dL_law_463 : decode code 463 = .ok (.iaload, 1) := by decide +kernel
theorem dL_law_464 : decode code 464 = .ok (.i2l, 1) := by decide +kernel
theorem dL_law_465 : decode code 465 = .ok (.bipush 32, 2) := by decide +kernel
theorem dL_law_467 : decode code 467 = .ok (.lshl, 1) := by decide +kernel
theorem dL_law_468 : decode code 468 = .ok (.aload_n 0, 1) := by decide +kernel
theorem dL_law_469 : decode code 469 = .ok (.iload 4, 2) := by decide +kernel
theorem dL_law_471 : decode code 471 = .ok (.iconst 4, 1) := by decide +kernel
