theorem d_L_law_344 : decode code 344 = .ok (.aload_n 1, 1) := by decide +kernel
theorem d_L_law_345 : decode code 345 = .ok (.aload_n 0, 1) := by decide +kernel
theorem d_L_law_346 : decode code 346 = .ok (.iload 4, 2) := by decide +kernel
theorem d_L_law_348 : decode code 348 = .ok (.iconst 1, 1) := by decide +kernel
theorem d_L_law_349 : decode code 349 = .ok (.iadd, 1) := by decide +kernel
theorem d_L_law_350 : decode code 350 = .ok (.iaload, 1) := by decide +kernel
theorem d_L_law_351 : decode code 351 = .ok (.aload_n 3, 1) := by decide +kernel
theorem d_L_law_352 : decode code 352 = .ok (.invokestatic 87, 3) := by decide +kernel
theorem d_L_law_355 : decode code 355 = .ok (.istore 5, 2) := by decide +kernel
theorem d_L_law_357 : decode code 357 = .ok (.aload_n 2, 1) := by decide +kernel
theorem d_L_law_358 : decode code 358 = .ok (.aload_n 0, 1) := by decide +kernel
theorem d_L_law_359 : decode code 359 = .ok (.iload 4, 2) := by decide +kernel
theorem d_L_law_361 : decode code 361 = .ok (.iconst 1, 1) := by decide +kernel
theorem d_L_law_362 : decode code 362 = .ok (.iadd, 1) := by decide +kernel
theorem d_L_law_363 : decode code 363 = .ok (.iaload, 1) := by decide +kernel
theorem d_L_law_364 : decode code 364 = .ok (.invokevirtual 90, 3) := by decide +kernel
theorem d_L_law_367 : decode code 367 = .ok (.istore 6, 2) := by decide +kernel
theorem d_L_law_369 : decode code 369 = .ok (.aload_n 2, 1) := by decide +kernel
theorem d_L_law_370 : decode code 370 = .ok (.invokevirtual 68, 3) := by decide +kernel
theorem d_L_law_373 : decode code 373 = .ok (.iload 5, 2) := by decide +kernel
theorem d_L_law_375 : decode code 375 = .ok (.if_icmp .eq 5, 3) := by decide +kernel
theorem d_L_law_378 : decode code 378 = .ok (.iconst 0, 1) := by decide +kernel
theorem d_L_law_379 : decode code 379 = .ok (.ireturn, 1) := by decide +kernel
theorem d_L_law_380 : decode code 380 = .ok (.iload 5, 2) := by decide +kernel
theorem d_L_law_382 : decode code 382 = .ok (.ifCond .ne 15, 3) := by decide +kernel
theorem d_L_law_385 : decode code 385 = .ok (.aload_n 3, 1) := by decide +kernel
theorem d_L_law_386 : decode code 386 = .ok (.iconst 0, 1) := by decide +kernel
theorem d_L_law_387 : decode code 387 = .ok (.laload, 1) := by decide +kernel
theorem d_L_law_388 : decode code 388 = .ok (.iload 6, 2) := by decide +kernel
theorem d_L_law_390 : decode code 390 = .ok (.i2l, 1) := by decide +kernel
theorem d_L_law_391 : decode code 391 = .ok (.lcmp, 1) := by decide +kernel
theorem d_L_law_392 : decode code 392 = .ok (.ifCond .eq 5, 3) := by decide +kernel
theorem d_L_law_395 : decode code 395 = .ok (.iconst 0, 1) := by decide +kernel
theorem d_L_law_396 : decode code 396 = .ok (.ireturn, 1) := by decide +kernel
theorem d_L_law_397 : decode code 397 = .ok (.goto 477, 3) := by decide +kernel
theorem d_L_law_400 : decode code 400 = .ok (.aload_n 1, 1) := by decide +kernel
theorem d_L_law_401 : decode code 401 = .ok (.aload_n 0, 1) := by decide +kernel
theorem d_L_law_402 : decode code 402 = .ok (.iload 4, 2) := by decide +kernel
theorem d_L_law_404 : decode code 404 = .ok (.iconst 1, 1) := by decide +kernel
theorem d_L_law_405 : decode code 405 = .ok (.iadd, 1) := by decide +kernel
theorem d_L_law_406 : decode code 406 = .ok (.iaload, 1) := by decide +kernel
theorem d_L_law_407 : decode code 407 = .ok (.invokestatic 91, 3) := by decide +kernel
theorem d_L_law_410 : decode code 410 = .ok (.istore 5, 2) := by decide +kernel
theorem d_L_law_412 : decode code 412 = .ok (.aload_n 2, 1) := by decide +kernel
theorem d_L_law_413 : decode code 413 = .ok (.aload_n 0, 1) := by decide +kernel
theorem d_L_law_414 : decode code 414 = .ok (.iload 4, 2) := by decide +kernel
theorem d_L_law_416 : decode code 416 = .ok (.iconst 1, 1) := by decide +kernel
theorem d_L_law_417 : decode code 417 = .ok (.iadd, 1) := by decide +kernel
theorem d_L_law_418 : decode code 418 = .ok (.iaload, 1) := by decide +kernel
theorem d_L_law_419 : decode code 419 = .ok (.invokevirtual 94, 3) := by decide +kernel
theorem d_L_law_422 : decode code 422 = .ok (.aload_n 2, 1) := by decide +kernel
theorem d_L_law_423 : decode code 423 = .ok (.invokevirtual 68, 3) := by decide +kernel
theorem d_L_law_426 : decode code 426 = .ok (.iload 5, 2) := by decide +kernel
theorem d_L_law_428 : decode code 428 = .ok (.if_icmp .eq 5, 3) := by decide +kernel
theorem d_L_law_431 : decode code 431 = .ok (.iconst 0, 1) := by decide +kernel
theorem d_L_law_432 : decode code 432 = .ok (.ireturn, 1) := by decide +kernel
theorem d_L_law_433 : decode code 433 = .ok (.goto 441, 3) := by decide +kernel
theorem d_L_law_436 : decode code 436 = .ok (.aload_n 1, 1) := by decide +kernel
theorem d_L_law_437 : decode code 437 = .ok (.aload_n 0, 1) := by decide +kernel
theorem d_L_law_438 : decode code 438 = .ok (.iload 4, 2) := by decide +kernel
theorem d_L_law_440 : decode code 440 = .ok (.iconst 1, 1) := by decide +kernel
theorem d_L_law_441 : decode code 441 = .ok (.iadd, 1) := by decide +kernel
theorem d_L_law_442 : decode code 442 = .ok (.iaload, 1) := by decide +kernel
theorem d_L_law_443 : decode code 443 = .ok (.aload_n 3, 1) := by decide +kernel
theorem d_L_law_444 : decode code 444 = .ok (.invokestatic 95, 3) := by decide +kernel
theorem d_L_law_447 : decode code 447 = .ok (.istore 5, 2) := by decide +kernel
theorem d_L_law_449 : decode code 449 = .ok (.aload_n 2, 1) := by decide +kernel
theorem d_L_law_450 : decode code 450 = .ok (.aload_n 0, 1) := by decide +kernel
theorem d_L_law_451 : decode code 451 = .ok (.iload 4, 2) := by decide +kernel
theorem d_L_law_453 : decode code 453 = .ok (.iconst 1, 1) := by decide +kernel
theorem d_L_law_454 : decode code 454 = .ok (.iadd, 1) := by decide +kernel
theorem d_L_law_455 : decode code 455 = .ok (.iaload, 1) := by decide +kernel
theorem d_L_law_456 : decode code 456 = .ok (.invokevirtual 97, 3) := by decide +kernel
theorem d_L_law_459 : decode code 459 = .ok (.istore 6, 2) := by decide +kernel
theorem d_L_law_461 : decode code 461 = .ok (.aload_n 2, 1) := by decide +kernel
theorem d_L_law_462 : decode code 462 = .ok (.invokevirtual 68, 3) := by decide +kernel
theorem d_L_law_465 : decode code 465 = .ok (.iload 5, 2) := by decide +kernel
theorem d_L_law_467 : decode code 467 = .ok (.if_icmp .eq 5, 3) := by decide +kernel
theorem d_L_law_470 : decode code 470 = .ok (.iconst 0, 1) := by decide +kernel
theorem d_L_law_471 : decode code 471 = .ok (.ireturn, 1) := by decide +kernel
theorem d_L_law_472 : decode code 472 = .ok (.iload 5, 2) := by decide +kernel
theorem d_L_law_474 : decode code 474 = .ok (.ifCond .ne 15, 3) := by decide +kernel
theorem d_L_law_477 : decode code 477 = .ok (.aload_n 3, 1) := by decide +kernel
theorem d_L_law_478 : decode code 478 = .ok (.iconst 0, 1) := by decide +kernel
theorem d_L_law_479 : decode code 479 = .ok (.laload, 1) := by decide +kernel
theorem d_L_law_480 : decode code 480 = .ok (.iload 6, 2) := by decide +kernel
theorem d_L_law_482 : decode code 482 = .ok (.i2l, 1) := by decide +kernel
theorem d_L_law_483 : decode code 483 = .ok (.lcmp, 1) := by decide +kernel
theorem d_L_law_484 : decode code 484 = .ok (.ifCond .eq 5, 3) := by decide +kernel
theorem d_L_law_487 : decode code 487 = .ok (.iconst 0, 1) := by decide +kernel
theorem d_L_law_488 : decode code 488 = .ok (.ireturn, 1) := by decide +kernel
theorem d_L_law_489 : decode code 489 = .ok (.goto 385, 3) := by decide +kernel
theorem d_L_law_492 : decode code 492 = .ok (.aload_n 1, 1) := by decide +kernel
theorem d_L_law_493 : decode code 493 = .ok (.aload_n 0, 1) := by decide +kernel
theorem d_L_law_494 : decode code 494 = .ok (.iload 4, 2) := by decide +kernel
theorem d_L_law_496 : decode code 496 = .ok (.iconst 1, 1) := by decide +kernel
theorem d_L_law_497 : decode code 497 = .ok (.iadd, 1) := by decide +kernel
theorem d_L_law_498 : decode code 498 = .ok (.iaload, 1) := by decide +kernel
theorem d_L_law_499 : decode code 499 = .ok (.aload_n 3, 1) := by decide +kernel
theorem d_L_law_500 : decode code 500 = .ok (.invokestatic 98, 3) := by decide +kernel
theorem d_L_law_503 : decode code 503 = .ok (.istore 5, 2) := by decide +kernel
theorem d_L_law_505 : decode code 505 = .ok (.aload_n 2, 1) := by decide +kernel
theorem d_L_law_506 : decode code 506 = .ok (.aload_n 0, 1) := by decide +kernel
theorem d_L_law_507 : decode code 507 = .ok (.iload 4, 2) := by decide +kernel
theorem d_L_law_509 : decode code 509 = .ok (.iconst 1, 1) := by decide +kernel
theorem d_L_law_510 : decode code 510 = .ok (.iadd, 1) := by decide +kernel
theorem d_L_law_511 : decode code 511 = .ok (.iaload, 1) := by decide +kernel
theorem d_L_law_512 : decode code 512 = .ok (.invokevirtual 100, 3) := by decide +kernel
theorem d_L_law_515 : decode code 515 = .ok (.lstore 6, 2) := by decide +kernel
theorem d_L_law_517 : decode code 517 = .ok (.aload_n 2, 1) := by decide +kernel
theorem d_L_law_518 : decode code 518 = .ok (.invokevirtual 68, 3) := by decide +kernel
theorem d_L_law_521 : decode code 521 = .ok (.iload 5, 2) := by decide +kernel
theorem d_L_law_523 : decode code 523 = .ok (.if_icmp .eq 5, 3) := by decide +kernel
theorem d_L_law_526 : decode code 526 = .ok (.iconst 0, 1) := by decide +kernel
theorem d_L_law_527 : decode code 527 = .ok (.ireturn, 1) := by decide +kernel
theorem d_L_law_528 : decode code 528 = .ok (.iload 5, 2) := by decide +kernel
theorem d_L_law_530 : decode code 530 = .ok (.ifCond .ne 14, 3) := by decide +kernel
theorem d_L_law_533 : decode code 533 = .ok (.aload_n 3, 1) := by decide +kernel
theorem d_L_law_534 : decode code 534 = .ok (.iconst 0, 1) := by decide +kernel
theorem d_L_law_535 : decode code 535 = .ok (.laload, 1) := by decide +kernel
theorem d_L_law_536 : decode code 536 = .ok (.lload 6, 2) := by decide +kernel
theorem d_L_law_538 : decode code 538 = .ok (.lcmp, 1) := by decide +kernel
theorem d_L_law_539 : decode code 539 = .ok (.ifCond .eq 5, 3) := by decide +kernel
theorem d_L_law_542 : decode code 542 = .ok (.iconst 0, 1) := by decide +kernel
theorem d_L_law_543 : decode code 543 = .ok (.ireturn, 1) := by decide +kernel
theorem d_L_law_544 : decode code 544 = .ok (.goto 330, 3) := by decide +kernel
theorem d_L_law_547 : decode code 547 = .ok (.aload_n 1, 1) := by decide +kernel
theorem d_L_law_548 : decode code 548 = .ok (.aload_n 3, 1) := by decide +kernel
theorem d_L_law_549 : decode code 549 = .ok (.invokestatic 101, 3) := by decide +kernel
theorem d_L_law_552 : decode code 552 = .ok (.istore 5, 2) := by decide +kernel
theorem d_L_law_554 : decode code 554 = .ok (.aload_n 2, 1) := by decide +kernel
theorem d_L_law_555 : decode code 555 = .ok (.invokevirtual 103, 3) := by decide +kernel
theorem d_L_law_558 : decode code 558 = .ok (.istore 6, 2) := by decide +kernel
theorem d_L_law_560 : decode code 560 = .ok (.aload_n 2, 1) := by decide +kernel
theorem d_L_law_561 : decode code 561 = .ok (.invokevirtual 68, 3) := by decide +kernel
theorem d_L_law_564 : decode code 564 = .ok (.iload 5, 2) := by decide +kernel
theorem d_L_law_566 : decode code 566 = .ok (.if_icmp .eq 5, 3) := by decide +kernel
theorem d_L_law_569 : decode code 569 = .ok (.iconst 0, 1) := by decide +kernel
theorem d_L_law_570 : decode code 570 = .ok (.ireturn, 1) := by decide +kernel
theorem d_L_law_571 : decode code 571 = .ok (.iload 5, 2) := by decide +kernel
theorem d_L_law_573 : decode code 573 = .ok (.ifCond .ne 15, 3) := by decide +kernel
theorem d_L_law_576 : decode code 576 = .ok (.aload_n 3, 1) := by decide +kernel
theorem d_L_law_577 : decode code 577 = .ok (.iconst 0, 1) := by decide +kernel
theorem d_L_law_578 : decode code 578 = .ok (.laload, 1) := by decide +kernel
theorem d_L_law_579 : decode code 579 = .ok (.iload 6, 2) := by decide +kernel
theorem d_L_law_581 : decode code 581 = .ok (.i2l, 1) := by decide +kernel
theorem d_L_law_582 : decode code 582 = .ok (.lcmp, 1) := by decide +kernel
theorem d_L_law_583 : decode code 583 = .ok (.ifCond .eq 5, 3) := by decide +kernel
theorem d_L_law_586 : decode code 586 = .ok (.iconst 0, 1) := by decide +kernel
theorem d_L_law_587 : decode code 587 = .ok (.ireturn, 1) := by decide +kernel
theorem d_L_law_588 : decode code 588 = .ok (.goto 286, 3) := by decide +kernel
theorem d_L_law_591 : decode code 591 = .ok (.aload_n 1, 1) := by decide +kernel
theorem d_L_law_592 : decode code 592 = .ok (.aload_n 3, 1) := by decide +kernel
theorem d_L_law_593 : decode code 593 = .ok (.invokestatic 104, 3) := by decide +kernel
theorem d_L_law_596 : decode code 596 = .ok (.istore 5, 2) := by decide +kernel
theorem d_L_law_598 : decode code 598 = .ok (.aload_n 2, 1) := by decide +kernel
theorem d_L_law_599 : decode code 599 = .ok (.invokevirtual 106, 3) := by decide +kernel
theorem d_L_law_602 : decode code 602 = .ok (.istore 6, 2) := by decide +kernel
theorem d_L_law_604 : decode code 604 = .ok (.aload_n 2, 1) := by decide +kernel
theorem d_L_law_605 : decode code 605 = .ok (.invokevirtual 68, 3) := by decide +kernel
theorem d_L_law_608 : decode code 608 = .ok (.iload 5, 2) := by decide +kernel
theorem d_L_law_610 : decode code 610 = .ok (.if_icmp .eq 5, 3) := by decide +kernel
