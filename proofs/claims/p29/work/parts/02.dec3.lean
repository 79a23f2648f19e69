theorem dL_law_299 : decode cL_law 299 = .ok (.iadd, 1) := by decide +kernel
theorem dL_law_300 : decode cL_law 300 = .ok (.iaload, 1) := by decide +kernel
theorem dL_law_301 : decode cL_law 301 = .ok (.if_icmp .ne 7, 3) := by decide +kernel
theorem dL_law_304 : decode cL_law 304 = .ok (.iconst 1, 1) := by decide +kernel
theorem dL_law_305 : decode cL_law 305 = .ok (.goto 4, 3) := by decide +kernel
theorem dL_law_308 : decode cL_law 308 = .ok (.iconst 0, 1) := by decide +kernel
theorem dL_law_309 : decode cL_law 309 = .ok (.istore 8, 2) := by decide +kernel
theorem dL_law_311 : decode cL_law 311 = .ok (.goto 639, 3) := by decide +kernel
theorem dL_law_314 : decode cL_law 314 = .ok (.iload 6, 2) := by decide +kernel
theorem dL_law_316 : decode cL_law 316 = .ok (.bipush 7, 2) := by decide +kernel
theorem dL_law_318 : decode cL_law 318 = .ok (.ishr, 1) := by decide +kernel
theorem dL_law_319 : decode cL_law 319 = .ok (.sipush 720, 3) := by decide +kernel
theorem dL_law_322 : decode cL_law 322 = .ok (.invokestatic 33, 3) := by decide +kernel
theorem dL_law_325 : decode cL_law 325 = .ok (.istore 10, 2) := by decide +kernel
theorem dL_law_327 : decode cL_law 327 = .ok (.aload_n 1, 1) := by decide +kernel
theorem dL_law_328 : decode cL_law 328 = .ok (.iload 7, 2) := by decide +kernel
theorem dL_law_330 : decode cL_law 330 = .ok (.iload 10, 2) := by decide +kernel
theorem dL_law_332 : decode cL_law 332 = .ok (.invokevirtual 73, 3) := by decide +kernel
theorem dL_law_335 : decode cL_law 335 = .ok (.aload_n 2, 1) := by decide +kernel
theorem dL_law_336 : decode cL_law 336 = .ok (.bipush 7, 2) := by decide +kernel
theorem dL_law_338 : decode cL_law 338 = .ok (.iload 7, 2) := by decide +kernel
theorem dL_law_340 : decode cL_law 340 = .ok (.imul, 1) := by decide +kernel
theorem dL_law_341 : decode cL_law 341 = .ok (.iaload, 1) := by decide +kernel
theorem dL_law_342 : decode cL_law 342 = .ok (.iload 10, 2) := by decide +kernel
theorem dL_law_344 : decode cL_law 344 = .ok (.invokestatic 20, 3) := by decide +kernel
theorem dL_law_347 : decode cL_law 347 = .ok (.if_icmp .ne 7, 3) := by decide +kernel
theorem dL_law_350 : decode cL_law 350 = .ok (.iconst 1, 1) := by decide +kernel
theorem dL_law_351 : decode cL_law 351 = .ok (.goto 4, 3) := by decide +kernel
theorem dL_law_354 : decode cL_law 354 = .ok (.iconst 0, 1) := by decide +kernel
theorem dL_law_355 : decode cL_law 355 = .ok (.istore 8, 2) := by decide +kernel
theorem dL_law_357 : decode cL_law 357 = .ok (.aload_n 2, 1) := by decide +kernel
theorem dL_law_358 : decode cL_law 358 = .ok (.bipush 7, 2) := by decide +kernel
theorem dL_law_360 : decode cL_law 360 = .ok (.iload 7, 2) := by decide +kernel
theorem dL_law_362 : decode cL_law 362 = .ok (.imul, 1) := by decide +kernel
theorem dL_law_363 : decode cL_law 363 = .ok (.iload 10, 2) := by decide +kernel
theorem dL_law_365 : decode cL_law 365 = .ok (.iastore, 1) := by decide +kernel
theorem dL_law_366 : decode cL_law 366 = .ok (.goto 584, 3) := by decide +kernel
theorem dL_law_369 : decode cL_law 369 = .ok (.aload_n 2, 1) := by decide +kernel
theorem dL_law_370 : decode cL_law 370 = .ok (.bipush 7, 2) := by decide +kernel
theorem dL_law_372 : decode cL_law 372 = .ok (.iload 7, 2) := by decide +kernel
theorem dL_law_374 : decode cL_law 374 = .ok (.imul, 1) := by decide +kernel
theorem dL_law_375 : decode cL_law 375 = .ok (.iconst 5, 1) := by decide +kernel
theorem dL_law_376 : decode cL_law 376 = .ok (.iadd, 1) := by decide +kernel
theorem dL_law_377 : decode cL_law 377 = .ok (.iconst 1, 1) := by decide +kernel
theorem dL_law_378 : decode cL_law 378 = .ok (.aload_n 2, 1) := by decide +kernel
theorem dL_law_379 : decode cL_law 379 = .ok (.bipush 7, 2) := by decide +kernel
theorem dL_law_381 : decode cL_law 381 = .ok (.iload 7, 2) := by decide +kernel
theorem dL_law_383 : decode cL_law 383 = .ok (.imul, 1) := by decide +kernel
theorem dL_law_384 : decode cL_law 384 = .ok (.iconst 5, 1) := by decide +kernel
theorem dL_law_385 : decode cL_law 385 = .ok (.iadd, 1) := by decide +kernel
theorem dL_law_386 : decode cL_law 386 = .ok (.iaload, 1) := by decide +kernel
theorem dL_law_387 : decode cL_law 387 = .ok (.isub, 1) := by decide +kernel
theorem dL_law_388 : decode cL_law 388 = .ok (.iastore, 1) := by decide +kernel
theorem dL_law_389 : decode cL_law 389 = .ok (.aload_n 1, 1) := by decide +kernel
theorem dL_law_390 : decode cL_law 390 = .ok (.iload 7, 2) := by decide +kernel
theorem dL_law_392 : decode cL_law 392 = .ok (.invokevirtual 76, 3) := by decide +kernel
theorem dL_law_395 : decode cL_law 395 = .ok (.aload_n 2, 1) := by decide +kernel
theorem dL_law_396 : decode cL_law 396 = .ok (.bipush 7, 2) := by decide +kernel
theorem dL_law_398 : decode cL_law 398 = .ok (.iload 7, 2) := by decide +kernel
theorem dL_law_400 : decode cL_law 400 = .ok (.imul, 1) := by decide +kernel
theorem dL_law_401 : decode cL_law 401 = .ok (.iconst 5, 1) := by decide +kernel
theorem dL_law_402 : decode cL_law 402 = .ok (.iadd, 1) := by decide +kernel
theorem dL_law_403 : decode cL_law 403 = .ok (.iaload, 1) := by decide +kernel
theorem dL_law_404 : decode cL_law 404 = .ok (.if_icmp .ne 7, 3) := by decide +kernel
theorem dL_law_407 : decode cL_law 407 = .ok (.iconst 1, 1) := by decide +kernel
theorem dL_law_408 : decode cL_law 408 = .ok (.goto 4, 3) := by decide +kernel
theorem dL_law_411 : decode cL_law 411 = .ok (.iconst 0, 1) := by decide +kernel
theorem dL_law_412 : decode cL_law 412 = .ok (.istore 8, 2) := by decide +kernel
theorem dL_law_414 : decode cL_law 414 = .ok (.goto 536, 3) := by decide +kernel
theorem dL_law_417 : decode cL_law 417 = .ok (.iload 6, 2) := by decide +kernel
theorem dL_law_419 : decode cL_law 419 = .ok (.bipush 7, 2) := by decide +kernel
theorem dL_law_421 : decode cL_law 421 = .ok (.ishr, 1) := by decide +kernel
theorem dL_law_422 : decode cL_law 422 = .ok (.iload 6, 2) := by decide +kernel
theorem dL_law_424 : decode cL_law 424 = .ok (.bipush 25, 2) := by decide +kernel
theorem dL_law_426 : decode cL_law 426 = .ok (.ishr, 1) := by decide +kernel
theorem dL_law_427 : decode cL_law 427 = .ok (.iconst 2, 1) := by decide +kernel
theorem dL_law_428 : decode cL_law 428 = .ok (.invokestatic 33, 3) := by decide +kernel
theorem dL_law_431 : decode cL_law 431 = .ok (.ifCond .ne 9, 3) := by decide +kernel
theorem dL_law_434 : decode cL_law 434 = .ok (.sipush 1440, 3) := by decide +kernel
theorem dL_law_437 : decode cL_law 437 = .ok (.goto 5, 3) := by decide +kernel
theorem dL_law_440 : decode cL_law 440 = .ok (.bipush 8, 2) := by decide +kernel
theorem dL_law_442 : decode cL_law 442 = .ok (.invokestatic 33, 3) := by decide +kernel
theorem dL_law_445 : decode cL_law 445 = .ok (.istore 11, 2) := by decide +kernel
theorem dL_law_447 : decode cL_law 447 = .ok (.iload 6, 2) := by decide +kernel
theorem dL_law_449 : decode cL_law 449 = .ok (.bipush 18, 2) := by decide +kernel
theorem dL_law_451 : decode cL_law 451 = .ok (.ishr, 1) := by decide +kernel
theorem dL_law_452 : decode cL_law 452 = .ok (.bipush 61, 2) := by decide +kernel
theorem dL_law_454 : decode cL_law 454 = .ok (.invokestatic 33, 3) := by decide +kernel
theorem dL_law_457 : decode cL_law 457 = .ok (.bipush 30, 2) := by decide +kernel
theorem dL_law_459 : decode cL_law 459 = .ok (.isub, 1) := by decide +kernel
theorem dL_law_460 : decode cL_law 460 = .ok (.istore 12, 2) := by decide +kernel
theorem dL_law_462 : decode cL_law 462 = .ok (.iconst 0, 1) := by decide +kernel
theorem dL_law_463 : decode cL_law 463 = .ok (.istore 13, 2) := by decide +kernel
theorem dL_law_465 : decode cL_law 465 = .ok (.iconst 0, 1) := by decide +kernel
theorem dL_law_466 : decode cL_law 466 = .ok (.istore 14, 2) := by decide +kernel
theorem dL_law_468 : decode cL_law 468 = .ok (.iload 14, 2) := by decide +kernel
theorem dL_law_470 : decode cL_law 470 = .ok (.aload 4, 2) := by decide +kernel
theorem dL_law_472 : decode cL_law 472 = .ok (.bipush 7, 2) := by decide +kernel
theorem dL_law_474 : decode cL_law 474 = .ok (.iaload, 1) := by decide +kernel
theorem dL_law_475 : decode cL_law 475 = .ok (.if_icmp .ge 32, 3) := by decide +kernel
theorem dL_law_478 : decode cL_law 478 = .ok (.iload 13, 2) := by decide +kernel
theorem dL_law_480 : decode cL_law 480 = .ok (.ifCond .ne 14, 3) := by decide +kernel
theorem dL_law_483 : decode cL_law 483 = .ok (.aload_n 3, 1) := by decide +kernel
theorem dL_law_484 : decode cL_law 484 = .ok (.iconst 2, 1) := by decide +kernel
theorem dL_law_485 : decode cL_law 485 = .ok (.iload 14, 2) := by decide +kernel
theorem dL_law_487 : decode cL_law 487 = .ok (.imul, 1) := by decide +kernel
theorem dL_law_488 : decode cL_law 488 = .ok (.iaload, 1) := by decide +kernel
theorem dL_law_489 : decode cL_law 489 = .ok (.iload 11, 2) := by decide +kernel
theorem dL_law_491 : decode cL_law 491 = .ok (.if_icmp .ne 7, 3) := by decide +kernel
theorem dL_law_494 : decode cL_law 494 = .ok (.iconst 1, 1) := by decide +kernel
theorem dL_law_495 : decode cL_law 495 = .ok (.goto 4, 3) := by decide +kernel
theorem dL_law_498 : decode cL_law 498 = .ok (.iconst 0, 1) := by decide +kernel
theorem dL_law_499 : decode cL_law 499 = .ok (.istore 13, 2) := by decide +kernel
theorem dL_law_501 : decode cL_law 501 = .ok (.iinc 14 1, 3) := by decide +kernel
theorem dL_law_504 : decode cL_law 504 = .ok (.goto (-36), 3) := by decide +kernel
theorem dL_law_507 : decode cL_law 507 = .ok (.iload 13, 2) := by decide +kernel
theorem dL_law_509 : decode cL_law 509 = .ok (.ifCond .ne 17, 3) := by decide +kernel
theorem dL_law_512 : decode cL_law 512 = .ok (.aload 4, 2) := by decide +kernel
theorem dL_law_514 : decode cL_law 514 = .ok (.bipush 7, 2) := by decide +kernel
theorem dL_law_516 : decode cL_law 516 = .ok (.iaload, 1) := by decide +kernel
theorem dL_law_517 : decode cL_law 517 = .ok (.bipush 6, 2) := by decide +kernel
theorem dL_law_519 : decode cL_law 519 = .ok (.if_icmp .ge 7, 3) := by decide +kernel
theorem dL_law_522 : decode cL_law 522 = .ok (.iconst 1, 1) := by decide +kernel
theorem dL_law_523 : decode cL_law 523 = .ok (.goto 4, 3) := by decide +kernel
theorem dL_law_526 : decode cL_law 526 = .ok (.iconst 0, 1) := by decide +kernel
theorem dL_law_527 : decode cL_law 527 = .ok (.istore 14, 2) := by decide +kernel
theorem dL_law_529 : decode cL_law 529 = .ok (.iload 14, 2) := by decide +kernel
theorem dL_law_531 : decode cL_law 531 = .ok (.ifCond .eq 36, 3) := by decide +kernel
theorem dL_law_534 : decode cL_law 534 = .ok (.aload_n 3, 1) := by decide +kernel
theorem dL_law_535 : decode cL_law 535 = .ok (.iconst 2, 1) := by decide +kernel
theorem dL_law_536 : decode cL_law 536 = .ok (.aload 4, 2) := by decide +kernel
theorem dL_law_538 : decode cL_law 538 = .ok (.bipush 7, 2) := by decide +kernel
theorem dL_law_540 : decode cL_law 540 = .ok (.iaload, 1) := by decide +kernel
theorem dL_law_541 : decode cL_law 541 = .ok (.imul, 1) := by decide +kernel
theorem dL_law_542 : decode cL_law 542 = .ok (.iload 11, 2) := by decide +kernel
theorem dL_law_544 : decode cL_law 544 = .ok (.iastore, 1) := by decide +kernel
theorem dL_law_545 : decode cL_law 545 = .ok (.aload_n 3, 1) := by decide +kernel
theorem dL_law_546 : decode cL_law 546 = .ok (.iconst 2, 1) := by decide +kernel
theorem dL_law_547 : decode cL_law 547 = .ok (.aload 4, 2) := by decide +kernel
theorem dL_law_549 : decode cL_law 549 = .ok (.bipush 7, 2) := by decide +kernel
theorem dL_law_551 : decode cL_law 551 = .ok (.iaload, 1) := by decide +kernel
theorem dL_law_552 : decode cL_law 552 = .ok (.imul, 1) := by decide +kernel
theorem dL_law_553 : decode cL_law 553 = .ok (.iconst 1, 1) := by decide +kernel
theorem dL_law_554 : decode cL_law 554 = .ok (.iadd, 1) := by decide +kernel
theorem dL_law_555 : decode cL_law 555 = .ok (.iload 12, 2) := by decide +kernel
theorem dL_law_557 : decode cL_law 557 = .ok (.iastore, 1) := by decide +kernel
theorem dL_law_558 : decode cL_law 558 = .ok (.aload 4, 2) := by decide +kernel
theorem dL_law_560 : decode cL_law 560 = .ok (.bipush 7, 2) := by decide +kernel
theorem dL_law_562 : decode cL_law 562 = .ok (.dup2, 1) := by decide +kernel
theorem dL_law_563 : decode cL_law 563 = .ok (.iaload, 1) := by decide +kernel
theorem dL_law_564 : decode cL_law 564 = .ok (.iconst 1, 1) := by decide +kernel
theorem dL_law_565 : decode cL_law 565 = .ok (.iadd, 1) := by decide +kernel
theorem dL_law_566 : decode cL_law 566 = .ok (.iastore, 1) := by decide +kernel
theorem dL_law_567 : decode cL_law 567 = .ok (.aload_n 1, 1) := by decide +kernel
theorem dL_law_568 : decode cL_law 568 = .ok (.iload 11, 2) := by decide +kernel
theorem dL_law_570 : decode cL_law 570 = .ok (.iload 12, 2) := by decide +kernel
theorem dL_law_572 : decode cL_law 572 = .ok (.invokevirtual 79, 3) := by decide +kernel
theorem dL_law_575 : decode cL_law 575 = .ok (.iload 13, 2) := by decide +kernel
theorem dL_law_577 : decode cL_law 577 = .ok (.ifCond .eq 9, 3) := by decide +kernel
theorem dL_law_580 : decode cL_law 580 = .ok (.sipush (-1003), 3) := by decide +kernel
theorem dL_law_583 : decode cL_law 583 = .ok (.goto 19, 3) := by decide +kernel
theorem dL_law_586 : decode cL_law 586 = .ok (.iload 14, 2) := by decide +kernel
theorem dL_law_588 : decode cL_law 588 = .ok (.ifCond .eq 11, 3) := by decide +kernel
theorem dL_law_591 : decode cL_law 591 = .ok (.aload 4, 2) := by decide +kernel
theorem dL_law_593 : decode cL_law 593 = .ok (.bipush 7, 2) := by decide +kernel
theorem dL_law_595 : decode cL_law 595 = .ok (.iaload, 1) := by decide +kernel
theorem dL_law_596 : decode cL_law 596 = .ok (.goto 6, 3) := by decide +kernel
theorem dL_law_599 : decode cL_law 599 = .ok (.sipush (-1004), 3) := by decide +kernel
theorem dL_law_602 : decode cL_law 602 = .ok (.if_icmp .ne 7, 3) := by decide +kernel
theorem dL_law_605 : decode cL_law 605 = .ok (.iconst 1, 1) := by decide +kernel
theorem dL_law_606 : decode cL_law 606 = .ok (.goto 4, 3) := by decide +kernel
theorem dL_law_609 : decode cL_law 609 = .ok (.iconst 0, 1) := by decide +kernel
theorem dL_law_610 : decode cL_law 610 = .ok (.istore 8, 2) := by decide +kernel
theorem dL_law_612 : decode cL_law 612 = .ok (.goto 338, 3) := by decide +kernel
theorem dL_law_615 : decode cL_law 615 = .ok (.iload 6, 2) := by decide +kernel
theorem dL_law_617 : decode cL_law 617 = .ok (.bipush 7, 2) := by decide +kernel
theorem dL_law_619 : decode cL_law 619 = .ok (.ishr, 1) := by decide +kernel
theorem dL_law_620 : decode cL_law 620 = .ok (.bipush 6, 2) := by decide +kernel
theorem dL_law_622 : decode cL_law 622 = .ok (.invokestatic 33, 3) := by decide +kernel
theorem dL_law_625 : decode cL_law 625 = .ok (.istore 15, 2) := by decide +kernel
theorem dL_law_627 : decode cL_law 627 = .ok (.iload 15, 2) := by decide +kernel
theorem dL_law_629 : decode cL_law 629 = .ok (.aload 4, 2) := by decide +kernel
theorem dL_law_631 : decode cL_law 631 = .ok (.bipush 7, 2) := by decide +kernel
theorem dL_law_633 : decode cL_law 633 = .ok (.iaload, 1) := by decide +kernel
theorem dL_law_634 : decode cL_law 634 = .ok (.if_icmp .ge 316, 3) := by decide +kernel
theorem dL_law_637 : decode cL_law 637 = .ok (.aload_n 1, 1) := by decide +kernel
theorem dL_law_638 : decode cL_law 638 = .ok (.aload_n 3, 1) := by decide +kernel
theorem dL_law_639 : decode cL_law 639 = .ok (.iconst 2, 1) := by decide +kernel
theorem dL_law_640 : decode cL_law 640 = .ok (.iload 15, 2) := by decide +kernel
theorem dL_law_642 : decode cL_law 642 = .ok (.imul, 1) := by decide +kernel
theorem dL_law_643 : decode cL_law 643 = .ok (.iaload, 1) := by decide +kernel
theorem dL_law_644 : decode cL_law 644 = .ok (.invokevirtual 82, 3) := by decide +kernel
theorem dL_law_647 : decode cL_law 647 = .ok (.aload_n 3, 1) := by decide +kernel
theorem dL_law_648 : decode cL_law 648 = .ok (.iconst 2, 1) := by decide +kernel
theorem dL_law_649 : decode cL_law 649 = .ok (.iload 15, 2) := by decide +kernel
theorem dL_law_651 : decode cL_law 651 = .ok (.imul, 1) := by decide +kernel
theorem dL_law_652 : decode cL_law 652 = .ok (.iconst 1, 1) := by decide +kernel
theorem dL_law_653 : decode cL_law 653 = .ok (.iadd, 1) := by decide +kernel
theorem dL_law_654 : decode cL_law 654 = .ok (.iaload, 1) := by decide +kernel
theorem dL_law_655 : decode cL_law 655 = .ok (.if_icmp .ne 7, 3) := by decide +kernel
theorem dL_law_658 : decode cL_law 658 = .ok (.iconst 1, 1) := by decide +kernel
theorem dL_law_659 : decode cL_law 659 = .ok (.goto 4, 3) := by decide +kernel
theorem dL_law_662 : decode cL_law 662 = .ok (.iconst 0, 1) := by decide +kernel
theorem dL_law_663 : decode cL_law 663 = .ok (.istore 8, 2) := by decide +kernel
theorem dL_law_665 : decode cL_law 665 = .ok (.iconst 2, 1) := by decide +kernel
theorem dL_law_666 : decode cL_law 666 = .ok (.iload 15, 2) := by decide +kernel
theorem dL_law_668 : decode cL_law 668 = .ok (.imul, 1) := by decide +kernel
theorem dL_law_669 : decode cL_law 669 = .ok (.istore 16, 2) := by decide +kernel
theorem dL_law_671 : decode cL_law 671 = .ok (.iload 16, 2) := by decide +kernel
theorem dL_law_673 : decode cL_law 673 = .ok (.bipush 10, 2) := by decide +kernel
theorem dL_law_675 : decode cL_law 675 = .ok (.if_icmp .ge 19, 3) := by decide +kernel
theorem dL_law_678 : decode cL_law 678 = .ok (.aload_n 3, 1) := by decide +kernel
theorem dL_law_679 : decode cL_law 679 = .ok (.iload 16, 2) := by decide +kernel
theorem dL_law_681 : decode cL_law 681 = .ok (.aload_n 3, 1) := by decide +kernel
theorem dL_law_682 : decode cL_law 682 = .ok (.iload 16, 2) := by decide +kernel
theorem dL_law_684 : decode cL_law 684 = .ok (.iconst 2, 1) := by decide +kernel
theorem dL_law_685 : decode cL_law 685 = .ok (.iadd, 1) := by decide +kernel
theorem dL_law_686 : decode cL_law 686 = .ok (.iaload, 1) := by decide +kernel
theorem dL_law_687 : decode cL_law 687 = .ok (.iastore, 1) := by decide +kernel
theorem dL_law_688 : decode cL_law 688 = .ok (.iinc 16 1, 3) := by decide +kernel
theorem dL_law_691 : decode cL_law 691 = .ok (.goto (-20), 3) := by decide +kernel
theorem dL_law_694 : decode cL_law 694 = .ok (.aload 4, 2) := by decide +kernel
theorem dL_law_696 : decode cL_law 696 = .ok (.bipush 7, 2) := by decide +kernel
theorem dL_law_698 : decode cL_law 698 = .ok (.dup2, 1) := by decide +kernel
theorem dL_law_699 : decode cL_law 699 = .ok (.iaload, 1) := by decide +kernel
theorem dL_law_700 : decode cL_law 700 = .ok (.iconst 1, 1) := by decide +kernel
theorem dL_law_701 : decode cL_law 701 = .ok (.isub, 1) := by decide +kernel
theorem dL_law_702 : decode cL_law 702 = .ok (.iastore, 1) := by decide +kernel
theorem dL_law_703 : decode cL_law 703 = .ok (.goto 247, 3) := by decide +kernel
theorem dL_law_706 : decode cL_law 706 = .ok (.aload 4, 2) := by decide +kernel
theorem dL_law_708 : decode cL_law 708 = .ok (.bipush 7, 2) := by decide +kernel
theorem dL_law_710 : decode cL_law 710 = .ok (.iaload, 1) := by decide +kernel
theorem dL_law_711 : decode cL_law 711 = .ok (.ifCond .ne 9, 3) := by decide +kernel
theorem dL_law_714 : decode cL_law 714 = .ok (.sipush (-1003), 3) := by decide +kernel
theorem dL_law_717 : decode cL_law 717 = .ok (.goto 10, 3) := by decide +kernel
theorem dL_law_720 : decode cL_law 720 = .ok (.aload_n 2, 1) := by decide +kernel
theorem dL_law_721 : decode cL_law 721 = .ok (.aload_n 3, 1) := by decide +kernel
theorem dL_law_722 : decode cL_law 722 = .ok (.aload 4, 2) := by decide +kernel
theorem dL_law_724 : decode cL_law 724 = .ok (.invokestatic 24, 3) := by decide +kernel
theorem dL_law_727 : decode cL_law 727 = .ok (.istore 16, 2) := by decide +kernel
theorem dL_law_729 : decode cL_law 729 = .ok (.aload_n 1, 1) := by decide +kernel
theorem dL_law_730 : decode cL_law 730 = .ok (.invokevirtual 85, 3) := by decide +kernel
theorem dL_law_733 : decode cL_law 733 = .ok (.iload 16, 2) := by decide +kernel
theorem dL_law_735 : decode cL_law 735 = .ok (.if_icmp .ne 7, 3) := by decide +kernel
theorem dL_law_738 : decode cL_law 738 = .ok (.iconst 1, 1) := by decide +kernel
theorem dL_law_739 : decode cL_law 739 = .ok (.goto 4, 3) := by decide +kernel
theorem dL_law_742 : decode cL_law 742 = .ok (.iconst 0, 1) := by decide +kernel
theorem dL_law_743 : decode cL_law 743 = .ok (.istore 8, 2) := by decide +kernel
theorem dL_law_745 : decode cL_law 745 = .ok (.goto 205, 3) := by decide +kernel
theorem dL_law_748 : decode cL_law 748 = .ok (.iload 6, 2) := by decide +kernel
theorem dL_law_750 : decode cL_law 750 = .ok (.bipush 7, 2) := by decide +kernel
theorem dL_law_752 : decode cL_law 752 = .ok (.ishr, 1) := by decide +kernel
theorem dL_law_753 : decode cL_law 753 = .ok (.iconst 3, 1) := by decide +kernel
theorem dL_law_754 : decode cL_law 754 = .ok (.invokestatic 33, 3) := by decide +kernel
theorem dL_law_757 : decode cL_law 757 = .ok (.istore 17, 2) := by decide +kernel
theorem dL_law_759 : decode cL_law 759 = .ok (.iload 17, 2) := by decide +kernel
theorem dL_law_761 : decode cL_law 761 = .ok (.ifCond .ne 18, 3) := by decide +kernel
theorem dL_law_764 : decode cL_law 764 = .ok (.iconst 1, 1) := by decide +kernel
theorem dL_law_765 : decode cL_law 765 = .ok (.iload 6, 2) := by decide +kernel
theorem dL_law_767 : decode cL_law 767 = .ok (.bipush 9, 2) := by decide +kernel
theorem dL_law_769 : decode cL_law 769 = .ok (.ishr, 1) := by decide +kernel
theorem dL_law_770 : decode cL_law 770 = .ok (.bipush 9, 2) := by decide +kernel
theorem dL_law_772 : decode cL_law 772 = .ok (.invokestatic 33, 3) := by decide +kernel
theorem dL_law_775 : decode cL_law 775 = .ok (.iadd, 1) := by decide +kernel
theorem dL_law_776 : decode cL_law 776 = .ok (.goto 54, 3) := by decide +kernel
theorem dL_law_779 : decode cL_law 779 = .ok (.iload 17, 2) := by decide +kernel
theorem dL_law_781 : decode cL_law 781 = .ok (.iconst 1, 1) := by decide +kernel
theorem dL_law_782 : decode cL_law 782 = .ok (.if_icmp .ne 16, 3) := by decide +kernel
theorem dL_law_785 : decode cL_law 785 = .ok (.iload 6, 2) := by decide +kernel
theorem dL_law_787 : decode cL_law 787 = .ok (.bipush 9, 2) := by decide +kernel
theorem dL_law_789 : decode cL_law 789 = .ok (.ishr, 1) := by decide +kernel
theorem dL_law_790 : decode cL_law 790 = .ok (.bipush 61, 2) := by decide +kernel
theorem dL_law_792 : decode cL_law 792 = .ok (.invokestatic 33, 3) := by decide +kernel
theorem dL_law_795 : decode cL_law 795 = .ok (.goto 35, 3) := by decide +kernel
theorem dL_law_798 : decode cL_law 798 = .ok (.bipush 100, 2) := by decide +kernel
theorem dL_law_800 : decode cL_law 800 = .ok (.iload 6, 2) := by decide +kernel
theorem dL_law_802 : decode cL_law 802 = .ok (.bipush 9, 2) := by decide +kernel
theorem dL_law_804 : decode cL_law 804 = .ok (.ishr, 1) := by decide +kernel
theorem dL_law_805 : decode cL_law 805 = .ok (.iload 6, 2) := by decide +kernel
theorem dL_law_807 : decode cL_law 807 = .ok (.bipush 25, 2) := by decide +kernel
theorem dL_law_809 : decode cL_law 809 = .ok (.ishr, 1) := by decide +kernel
theorem dL_law_810 : decode cL_law 810 = .ok (.iconst 2, 1) := by decide +kernel
theorem dL_law_811 : decode cL_law 811 = .ok (.invokestatic 33, 3) := by decide +kernel
theorem dL_law_814 : decode cL_law 814 = .ok (.ifCond .ne 9, 3) := by decide +kernel
theorem dL_law_817 : decode cL_law 817 = .ok (.sipush 4901, 3) := by decide +kernel
theorem dL_law_820 : decode cL_law 820 = .ok (.goto 6, 3) := by decide +kernel
theorem dL_law_823 : decode cL_law 823 = .ok (.sipush 200, 3) := by decide +kernel
theorem dL_law_826 : decode cL_law 826 = .ok (.invokestatic 33, 3) := by decide +kernel
theorem dL_law_829 : decode cL_law 829 = .ok (.iadd, 1) := by decide +kernel
theorem dL_law_830 : decode cL_law 830 = .ok (.istore 18, 2) := by decide +kernel
theorem dL_law_832 : decode cL_law 832 = .ok (.aload_n 1, 1) := by decide +kernel
theorem dL_law_833 : decode cL_law 833 = .ok (.iload 17, 2) := by decide +kernel
theorem dL_law_835 : decode cL_law 835 = .ok (.iload 18, 2) := by decide +kernel
theorem dL_law_837 : decode cL_law 837 = .ok (.invokevirtual 87, 3) := by decide +kernel
theorem dL_law_840 : decode cL_law 840 = .ok (.aload 4, 2) := by decide +kernel
theorem dL_law_842 : decode cL_law 842 = .ok (.iconst 1, 1) := by decide +kernel
theorem dL_law_843 : decode cL_law 843 = .ok (.iload 17, 2) := by decide +kernel
theorem dL_law_845 : decode cL_law 845 = .ok (.iadd, 1) := by decide +kernel
theorem dL_law_846 : decode cL_law 846 = .ok (.iaload, 1) := by decide +kernel
theorem dL_law_847 : decode cL_law 847 = .ok (.if_icmp .ne 7, 3) := by decide +kernel
theorem dL_law_850 : decode cL_law 850 = .ok (.iconst 1, 1) := by decide +kernel
theorem dL_law_851 : decode cL_law 851 = .ok (.goto 4, 3) := by decide +kernel
theorem dL_law_854 : decode cL_law 854 = .ok (.iconst 0, 1) := by decide +kernel
theorem dL_law_855 : decode cL_law 855 = .ok (.istore 8, 2) := by decide +kernel
theorem dL_law_857 : decode cL_law 857 = .ok (.aload 4, 2) := by decide +kernel
theorem dL_law_859 : decode cL_law 859 = .ok (.iconst 1, 1) := by decide +kernel
theorem dL_law_860 : decode cL_law 860 = .ok (.iload 17, 2) := by decide +kernel
theorem dL_law_862 : decode cL_law 862 = .ok (.iadd, 1) := by decide +kernel
theorem dL_law_863 : decode cL_law 863 = .ok (.iload 18, 2) := by decide +kernel
theorem dL_law_865 : decode cL_law 865 = .ok (.iastore, 1) := by decide +kernel
theorem dL_law_866 : decode cL_law 866 = .ok (.goto 84, 3) := by decide +kernel
theorem dL_law_869 : decode cL_law 869 = .ok (.iconst 1, 1) := by decide +kernel
theorem dL_law_870 : decode cL_law 870 = .ok (.iload 6, 2) := by decide +kernel
theorem dL_law_872 : decode cL_law 872 = .ok (.bipush 7, 2) := by decide +kernel
theorem dL_law_874 : decode cL_law 874 = .ok (.ishr, 1) := by decide +kernel
theorem dL_law_875 : decode cL_law 875 = .ok (.iload 6, 2) := by decide +kernel
theorem dL_law_877 : decode cL_law 877 = .ok (.bipush 25, 2) := by decide +kernel
theorem dL_law_879 : decode cL_law 879 = .ok (.ishr, 1) := by decide +kernel
theorem dL_law_880 : decode cL_law 880 = .ok (.iconst 3, 1) := by decide +kernel
theorem dL_law_881 : decode cL_law 881 = .ok (.invokestatic 33, 3) := by decide +kernel
theorem dL_law_884 : decode cL_law 884 = .ok (.ifCond .ne 9, 3) := by decide +kernel
theorem dL_law_887 : decode cL_law 887 = .ok (.sipush 800, 3) := by decide +kernel
theorem dL_law_890 : decode cL_law 890 = .ok (.goto 5, 3) := by decide +kernel
theorem dL_law_893 : decode cL_law 893 = .ok (.bipush 90, 2) := by decide +kernel
theorem dL_law_895 : decode cL_law 895 = .ok (.invokestatic 33, 3) := by decide +kernel
theorem dL_law_898 : decode cL_law 898 = .ok (.iadd, 1) := by decide +kernel
theorem dL_law_899 : decode cL_law 899 = .ok (.istore 19, 2) := by decide +kernel
theorem dL_law_901 : decode cL_law 901 = .ok (.iconst 0, 1) := by decide +kernel
theorem dL_law_902 : decode cL_law 902 = .ok (.istore 20, 2) := by decide +kernel
theorem dL_law_904 : decode cL_law 904 = .ok (.iconst 0, 1) := by decide +kernel
theorem dL_law_905 : decode cL_law 905 = .ok (.istore 21, 2) := by decide +kernel
theorem dL_law_907 : decode cL_law 907 = .ok (.iload 21, 2) := by decide +kernel
theorem dL_law_909 : decode cL_law 909 = .ok (.iload 19, 2) := by decide +kernel
theorem dL_law_911 : decode cL_law 911 = .ok (.if_icmp .ge 21, 3) := by decide +kernel
theorem dL_law_914 : decode cL_law 914 = .ok (.iload 20, 2) := by decide +kernel
theorem dL_law_916 : decode cL_law 916 = .ok (.aload_n 2, 1) := by decide +kernel
theorem dL_law_917 : decode cL_law 917 = .ok (.aload_n 3, 1) := by decide +kernel
theorem dL_law_918 : decode cL_law 918 = .ok (.aload 4, 2) := by decide +kernel
theorem dL_law_920 : decode cL_law 920 = .ok (.invokestatic 90, 3) := by decide +kernel
theorem dL_law_923 : decode cL_law 923 = .ok (.iadd, 1) := by decide +kernel
theorem dL_law_924 : decode cL_law 924 = .ok (.istore 20, 2) := by decide +kernel
theorem dL_law_926 : decode cL_law 926 = .ok (.iinc 21 1, 3) := by decide +kernel
theorem dL_law_929 : decode cL_law 929 = .ok (.goto (-22), 3) := by decide +kernel
theorem dL_law_932 : decode cL_law 932 = .ok (.aload_n 1, 1) := by decide +kernel
theorem dL_law_933 : decode cL_law 933 = .ok (.iload 19, 2) := by decide +kernel
theorem dL_law_935 : decode cL_law 935 = .ok (.invokevirtual 93, 3) := by decide +kernel
theorem dL_law_938 : decode cL_law 938 = .ok (.iload 20, 2) := by decide +kernel
theorem dL_law_940 : decode cL_law 940 = .ok (.if_icmp .ne 7, 3) := by decide +kernel
theorem dL_law_943 : decode cL_law 943 = .ok (.iconst 1, 1) := by decide +kernel
theorem dL_law_944 : decode cL_law 944 = .ok (.goto 4, 3) := by decide +kernel
theorem dL_law_947 : decode cL_law 947 = .ok (.iconst 0, 1) := by decide +kernel
theorem dL_law_948 : decode cL_law 948 = .ok (.istore 8, 2) := by decide +kernel
theorem dL_law_950 : decode cL_law 950 = .ok (.aload_n 0, 1) := by decide +kernel
theorem dL_law_951 : decode cL_law 951 = .ok (.bipush 40, 2) := by decide +kernel
theorem dL_law_953 : decode cL_law 953 = .ok (.iload 5, 2) := by decide +kernel
theorem dL_law_955 : decode cL_law 955 = .ok (.iadd, 1) := by decide +kernel
theorem dL_law_956 : decode cL_law 956 = .ok (.invokestatic 64, 3) := by decide +kernel
theorem dL_law_959 : decode cL_law 959 = .ok (.istore 9, 2) := by decide +kernel
theorem dL_law_961 : decode cL_law 961 = .ok (.iload 8, 2) := by decide +kernel
theorem dL_law_963 : decode cL_law 963 = .ok (.ifCond .eq 24, 3) := by decide +kernel
theorem dL_law_966 : decode cL_law 966 = .ok (.aload_n 1, 1) := by decide +kernel
theorem dL_law_967 : decode cL_law 967 = .ok (.aload_n 2, 1) := by decide +kernel
theorem dL_law_968 : decode cL_law 968 = .ok (.aload_n 3, 1) := by decide +kernel
theorem dL_law_969 : decode cL_law 969 = .ok (.aload 4, 2) := by decide +kernel
theorem dL_law_971 : decode cL_law 971 = .ok (.iload 9, 2) := by decide +kernel
theorem dL_law_973 : decode cL_law 973 = .ok (.invokestatic 96, 3) := by decide +kernel
theorem dL_law_976 : decode cL_law 976 = .ok (.ifCond .eq 11, 3) := by decide +kernel
theorem dL_law_979 : decode cL_law 979 = .ok (.aload_n 1, 1) := by decide +kernel
theorem dL_law_980 : decode cL_law 980 = .ok (.aload_n 2, 1) := by decide +kernel
theorem dL_law_981 : decode cL_law 981 = .ok (.invokestatic 100, 3) := by decide +kernel
theorem dL_law_984 : decode cL_law 984 = .ok (.ifCond .ne 5, 3) := by decide +kernel
theorem dL_law_987 : decode cL_law 987 = .ok (.iconst 0, 1) := by decide +kernel
theorem dL_law_988 : decode cL_law 988 = .ok (.ireturn, 1) := by decide +kernel
theorem dL_law_989 : decode cL_law 989 = .ok (.iload 5, 2) := by decide +kernel
theorem dL_law_991 : decode cL_law 991 = .ok (.iconst 4, 1) := by decide +kernel
theorem dL_law_992 : decode cL_law 992 = .ok (.irem, 1) := by decide +kernel
theorem dL_law_993 : decode cL_law 993 = .ok (.iconst 3, 1) := by decide +kernel
theorem dL_law_994 : decode cL_law 994 = .ok (.if_icmp .ne 168, 3) := by decide +kernel
theorem dL_law_997 : decode cL_law 997 = .ok (.aload_n 2, 1) := by decide +kernel
theorem dL_law_998 : decode cL_law 998 = .ok (.bipush 28, 2) := by decide +kernel
theorem dL_law_1000 : decode cL_law 1000 = .ok (.newarray .int, 2) := by decide +kernel
theorem dL_law_1002 : decode cL_law 1002 = .ok (.invokestatic 104, 3) := by decide +kernel
theorem dL_law_1005 : decode cL_law 1005 = .ok (.astore 10, 2) := by decide +kernel
theorem dL_law_1007 : decode cL_law 1007 = .ok (.aload 4, 2) := by decide +kernel
theorem dL_law_1009 : decode cL_law 1009 = .ok (.bipush 8, 2) := by decide +kernel
theorem dL_law_1011 : decode cL_law 1011 = .ok (.newarray .int, 2) := by decide +kernel
theorem dL_law_1013 : decode cL_law 1013 = .ok (.invokestatic 104, 3) := by decide +kernel
theorem dL_law_1016 : decode cL_law 1016 = .ok (.astore 11, 2) := by decide +kernel
theorem dL_law_1018 : decode cL_law 1018 = .ok (.iload 9, 2) := by decide +kernel
theorem dL_law_1020 : decode cL_law 1020 = .ok (.bipush 11, 2) := by decide +kernel
theorem dL_law_1022 : decode cL_law 1022 = .ok (.ishr, 1) := by decide +kernel
theorem dL_law_1023 : decode cL_law 1023 = .ok (.sipush 400, 3) := by decide +kernel
theorem dL_law_1026 : decode cL_law 1026 = .ok (.invokestatic 33, 3) := by decide +kernel
theorem dL_law_1029 : decode cL_law 1029 = .ok (.istore 12, 2) := by decide +kernel
theorem dL_law_1031 : decode cL_law 1031 = .ok (.iload 9, 2) := by decide +kernel
theorem dL_law_1033 : decode cL_law 1033 = .ok (.bipush 20, 2) := by decide +kernel
theorem dL_law_1035 : decode cL_law 1035 = .ok (.ishr, 1) := by decide +kernel
theorem dL_law_1036 : decode cL_law 1036 = .ok (.bipush 12, 2) := by decide +kernel
theorem dL_law_1038 : decode cL_law 1038 = .ok (.invokestatic 33, 3) := by decide +kernel
theorem dL_law_1041 : decode cL_law 1041 = .ok (.istore 13, 2) := by decide +kernel
theorem dL_law_1043 : decode cL_law 1043 = .ok (.aload_n 2, 1) := by decide +kernel
theorem dL_law_1044 : decode cL_law 1044 = .ok (.invokestatic 53, 3) := by decide +kernel
theorem dL_law_1047 : decode cL_law 1047 = .ok (.iload 13, 2) := by decide +kernel
theorem dL_law_1049 : decode cL_law 1049 = .ok (.if_icmp .lt 7, 3) := by decide +kernel
theorem dL_law_1052 : decode cL_law 1052 = .ok (.iconst 0, 1) := by decide +kernel
theorem dL_law_1053 : decode cL_law 1053 = .ok (.goto 4, 3) := by decide +kernel
theorem dL_law_1056 : decode cL_law 1056 = .ok (.iconst (-1), 1) := by decide +kernel
theorem dL_law_1057 : decode cL_law 1057 = .ok (.istore 14, 2) := by decide +kernel
theorem dL_law_1059 : decode cL_law 1059 = .ok (.iconst 1, 1) := by decide +kernel
theorem dL_law_1060 : decode cL_law 1060 = .ok (.istore 15, 2) := by decide +kernel
theorem dL_law_1062 : decode cL_law 1062 = .ok (.iload 15, 2) := by decide +kernel
theorem dL_law_1064 : decode cL_law 1064 = .ok (.iload 12, 2) := by decide +kernel
theorem dL_law_1066 : decode cL_law 1066 = .ok (.if_icmp .gt 42, 3) := by decide +kernel
theorem dL_law_1069 : decode cL_law 1069 = .ok (.aload 10, 2) := by decide +kernel
theorem dL_law_1071 : decode cL_law 1071 = .ok (.aload_n 3, 1) := by decide +kernel
theorem dL_law_1072 : decode cL_law 1072 = .ok (.aload 11, 2) := by decide +kernel
theorem dL_law_1074 : decode cL_law 1074 = .ok (.invokestatic 90, 3) := by decide +kernel
theorem dL_law_1077 : decode cL_law 1077 = .ok (.pop, 1) := by decide +kernel
theorem dL_law_1078 : decode cL_law 1078 = .ok (.iload 14, 2) := by decide +kernel
theorem dL_law_1080 : decode cL_law 1080 = .ok (.ifCond .ge 18, 3) := by decide +kernel
theorem dL_law_1083 : decode cL_law 1083 = .ok (.aload 10, 2) := by decide +kernel
theorem dL_law_1085 : decode cL_law 1085 = .ok (.invokestatic 53, 3) := by decide +kernel
theorem dL_law_1088 : decode cL_law 1088 = .ok (.iload 13, 2) := by decide +kernel
theorem dL_law_1090 : decode cL_law 1090 = .ok (.if_icmp .lt 8, 3) := by decide +kernel
theorem dL_law_1093 : decode cL_law 1093 = .ok (.iload 15, 2) := by decide +kernel
theorem dL_law_1095 : decode cL_law 1095 = .ok (.goto 5, 3) := by decide +kernel
theorem dL_law_1098 : decode cL_law 1098 = .ok (.iload 14, 2) := by decide +kernel
theorem dL_law_1100 : decode cL_law 1100 = .ok (.istore 14, 2) := by decide +kernel
theorem dL_law_1102 : decode cL_law 1102 = .ok (.iinc 15 1, 3) := by decide +kernel
theorem dL_law_1105 : decode cL_law 1105 = .ok (.goto (-43), 3) := by decide +kernel
theorem dL_law_1108 : decode cL_law 1108 = .ok (.aload_n 1, 1) := by decide +kernel
theorem dL_law_1109 : decode cL_law 1109 = .ok (.iload 13, 2) := by decide +kernel
theorem dL_law_1111 : decode cL_law 1111 = .ok (.invokevirtual 108, 3) := by decide +kernel
theorem dL_law_1114 : decode cL_law 1114 = .ok (.istore 15, 2) := by decide +kernel
theorem dL_law_1116 : decode cL_law 1116 = .ok (.aload_n 1, 1) := by decide +kernel
theorem dL_law_1117 : decode cL_law 1117 = .ok (.iload 12, 2) := by decide +kernel
theorem dL_law_1119 : decode cL_law 1119 = .ok (.invokevirtual 111, 3) := by decide +kernel
theorem dL_law_1122 : decode cL_law 1122 = .ok (.aload 10, 2) := by decide +kernel
theorem dL_law_1124 : decode cL_law 1124 = .ok (.invokestatic 53, 3) := by decide +kernel
theorem dL_law_1127 : decode cL_law 1127 = .ok (.if_icmp .ne 33, 3) := by decide +kernel
theorem dL_law_1130 : decode cL_law 1130 = .ok (.iload 14, 2) := by decide +kernel
theorem dL_law_1132 : decode cL_law 1132 = .ok (.ifCond .lt 13, 3) := by decide +kernel
theorem dL_law_1135 : decode cL_law 1135 = .ok (.iload 15, 2) := by decide +kernel
theorem dL_law_1137 : decode cL_law 1137 = .ok (.iload 14, 2) := by decide +kernel
theorem dL_law_1139 : decode cL_law 1139 = .ok (.if_icmp .eq 23, 3) := by decide +kernel
theorem dL_law_1142 : decode cL_law 1142 = .ok (.goto 18, 3) := by decide +kernel
theorem dL_law_1145 : decode cL_law 1145 = .ok (.iload 15, 2) := by decide +kernel
theorem dL_law_1147 : decode cL_law 1147 = .ok (.sipush (-1000), 3) := by decide +kernel
theorem dL_law_1150 : decode cL_law 1150 = .ok (.if_icmp .eq 12, 3) := by decide +kernel
theorem dL_law_1153 : decode cL_law 1153 = .ok (.iload 15, 2) := by decide +kernel
theorem dL_law_1155 : decode cL_law 1155 = .ok (.iload 12, 2) := by decide +kernel
theorem dL_law_1157 : decode cL_law 1157 = .ok (.if_icmp .gt 5, 3) := by decide +kernel
theorem dL_law_1160 : decode cL_law 1160 = .ok (.iconst 0, 1) := by decide +kernel
theorem dL_law_1161 : decode cL_law 1161 = .ok (.ireturn, 1) := by decide +kernel
theorem dL_law_1162 : decode cL_law 1162 = .ok (.iload 5, 2) := by decide +kernel
theorem dL_law_1164 : decode cL_law 1164 = .ok (.bipush 12, 2) := by decide +kernel
theorem dL_law_1166 : decode cL_law 1166 = .ok (.irem, 1) := by decide +kernel
theorem dL_law_1167 : decode cL_law 1167 = .ok (.bipush 11, 2) := by decide +kernel
theorem dL_law_1169 : decode cL_law 1169 = .ok (.if_icmp .ne 234, 3) := by decide +kernel
theorem dL_law_1172 : decode cL_law 1172 = .ok (.iconst 0, 1) := by decide +kernel
theorem dL_law_1173 : decode cL_law 1173 = .ok (.istore 10, 2) := by decide +kernel
theorem dL_law_1175 : decode cL_law 1175 = .ok (.iconst 0, 1) := by decide +kernel
theorem dL_law_1176 : decode cL_law 1176 = .ok (.istore 11, 2) := by decide +kernel
theorem dL_law_1178 : decode cL_law 1178 = .ok (.iconst 0, 1) := by decide +kernel
theorem dL_law_1179 : decode cL_law 1179 = .ok (.istore 12, 2) := by decide +kernel
theorem dL_law_1181 : decode cL_law 1181 = .ok (.iload 12, 2) := by decide +kernel
theorem dL_law_1183 : decode cL_law 1183 = .ok (.iconst 4, 1) := by decide +kernel
theorem dL_law_1184 : decode cL_law 1184 = .ok (.if_icmp .ge 208, 3) := by decide +kernel
theorem dL_law_1187 : decode cL_law 1187 = .ok (.aload_n 2, 1) := by decide +kernel
theorem dL_law_1188 : decode cL_law 1188 = .ok (.bipush 28, 2) := by decide +kernel
theorem dL_law_1190 : decode cL_law 1190 = .ok (.newarray .int, 2) := by decide +kernel
theorem dL_law_1192 : decode cL_law 1192 = .ok (.invokestatic 104, 3) := by decide +kernel
theorem dL_law_1195 : decode cL_law 1195 = .ok (.astore 13, 2) := by decide +kernel
theorem dL_law_1197 : decode cL_law 1197 = .ok (.aload 4, 2) := by decide +kernel
theorem dL_law_1199 : decode cL_law 1199 = .ok (.bipush 8, 2) := by decide +kernel
theorem dL_law_1201 : decode cL_law 1201 = .ok (.newarray .int, 2) := by decide +kernel
theorem dL_law_1203 : decode cL_law 1203 = .ok (.invokestatic 104, 3) := by decide +kernel
theorem dL_law_1206 : decode cL_law 1206 = .ok (.astore 14, 2) := by decide +kernel
theorem dL_law_1208 : decode cL_law 1208 = .ok (.aload 13, 2) := by decide +kernel
theorem dL_law_1210 : decode cL_law 1210 = .ok (.bipush 7, 2) := by decide +kernel
theorem dL_law_1212 : decode cL_law 1212 = .ok (.iload 12, 2) := by decide +kernel
theorem dL_law_1214 : decode cL_law 1214 = .ok (.imul, 1) := by decide +kernel
theorem dL_law_1215 : decode cL_law 1215 = .ok (.iconst 2, 1) := by decide +kernel
theorem dL_law_1216 : decode cL_law 1216 = .ok (.iadd, 1) := by decide +kernel
theorem dL_law_1217 : decode cL_law 1217 = .ok (.iconst 0, 1) := by decide +kernel
theorem dL_law_1218 : decode cL_law 1218 = .ok (.iastore, 1) := by decide +kernel
theorem dL_law_1219 : decode cL_law 1219 = .ok (.aload 13, 2) := by decide +kernel
theorem dL_law_1221 : decode cL_law 1221 = .ok (.bipush 7, 2) := by decide +kernel
theorem dL_law_1223 : decode cL_law 1223 = .ok (.iload 12, 2) := by decide +kernel
theorem dL_law_1225 : decode cL_law 1225 = .ok (.imul, 1) := by decide +kernel
theorem dL_law_1226 : decode cL_law 1226 = .ok (.iconst 3, 1) := by decide +kernel
theorem dL_law_1227 : decode cL_law 1227 = .ok (.iadd, 1) := by decide +kernel
theorem dL_law_1228 : decode cL_law 1228 = .ok (.dup2, 1) := by decide +kernel
theorem dL_law_1229 : decode cL_law 1229 = .ok (.iaload, 1) := by decide +kernel
theorem dL_law_1230 : decode cL_law 1230 = .ok (.aload 13, 2) := by decide +kernel
theorem dL_law_1232 : decode cL_law 1232 = .ok (.bipush 7, 2) := by decide +kernel
theorem dL_law_1234 : decode cL_law 1234 = .ok (.iload 12, 2) := by decide +kernel
theorem dL_law_1236 : decode cL_law 1236 = .ok (.imul, 1) := by decide +kernel
theorem dL_law_1237 : decode cL_law 1237 = .ok (.iconst 3, 1) := by decide +kernel
theorem dL_law_1238 : decode cL_law 1238 = .ok (.iadd, 1) := by decide +kernel
theorem dL_law_1239 : decode cL_law 1239 = .ok (.iaload, 1) := by decide +kernel
theorem dL_law_1240 : decode cL_law 1240 = .ok (.ifCond .le 7, 3) := by decide +kernel
theorem dL_law_1243 : decode cL_law 1243 = .ok (.iconst 1, 1) := by decide +kernel
theorem dL_law_1244 : decode cL_law 1244 = .ok (.goto 4, 3) := by decide +kernel
theorem dL_law_1247 : decode cL_law 1247 = .ok (.iconst 0, 1) := by decide +kernel
theorem dL_law_1248 : decode cL_law 1248 = .ok (.isub, 1) := by decide +kernel
theorem dL_law_1249 : decode cL_law 1249 = .ok (.iastore, 1) := by decide +kernel
theorem dL_law_1250 : decode cL_law 1250 = .ok (.iconst 0, 1) := by decide +kernel
theorem dL_law_1251 : decode cL_law 1251 = .ok (.istore 15, 2) := by decide +kernel
theorem dL_law_1253 : decode cL_law 1253 = .ok (.iload 15, 2) := by decide +kernel
theorem dL_law_1255 : decode cL_law 1255 = .ok (.sipush 1440, 3) := by decide +kernel
theorem dL_law_1258 : decode cL_law 1258 = .ok (.if_icmp .ge 18, 3) := by decide +kernel
theorem dL_law_1261 : decode cL_law 1261 = .ok (.aload 13, 2) := by decide +kernel
theorem dL_law_1263 : decode cL_law 1263 = .ok (.aload_n 3, 1) := by decide +kernel
theorem dL_law_1264 : decode cL_law 1264 = .ok (.aload 14, 2) := by decide +kernel
theorem dL_law_1266 : decode cL_law 1266 = .ok (.invokestatic 90, 3) := by decide +kernel
theorem dL_law_1269 : decode cL_law 1269 = .ok (.pop, 1) := by decide +kernel
theorem dL_law_1270 : decode cL_law 1270 = .ok (.iinc 15 1, 3) := by decide +kernel
theorem dL_law_1273 : decode cL_law 1273 = .ok (.goto (-20), 3) := by decide +kernel
theorem dL_law_1276 : decode cL_law 1276 = .ok (.aload 13, 2) := by decide +kernel
theorem dL_law_1278 : decode cL_law 1278 = .ok (.iconst 0, 1) := by decide +kernel
theorem dL_law_1279 : decode cL_law 1279 = .ok (.iaload, 1) := by decide +kernel
theorem dL_law_1280 : decode cL_law 1280 = .ok (.aload 14, 2) := by decide +kernel
theorem dL_law_1282 : decode cL_law 1282 = .ok (.iconst 0, 1) := by decide +kernel
theorem dL_law_1283 : decode cL_law 1283 = .ok (.iaload, 1) := by decide +kernel
theorem dL_law_1284 : decode cL_law 1284 = .ok (.sipush 720, 3) := by decide +kernel
theorem dL_law_1287 : decode cL_law 1287 = .ok (.irem, 1) := by decide +kernel
theorem dL_law_1288 : decode cL_law 1288 = .ok (.invokestatic 20, 3) := by decide +kernel
theorem dL_law_1291 : decode cL_law 1291 = .ok (.aload 13, 2) := by decide +kernel
theorem dL_law_1293 : decode cL_law 1293 = .ok (.bipush 7, 2) := by decide +kernel
theorem dL_law_1295 : decode cL_law 1295 = .ok (.iaload, 1) := by decide +kernel
theorem dL_law_1296 : decode cL_law 1296 = .ok (.aload 14, 2) := by decide +kernel
theorem dL_law_1298 : decode cL_law 1298 = .ok (.iconst 0, 1) := by decide +kernel
theorem dL_law_1299 : decode cL_law 1299 = .ok (.iaload, 1) := by decide +kernel
theorem dL_law_1300 : decode cL_law 1300 = .ok (.sipush 720, 3) := by decide +kernel
theorem dL_law_1303 : decode cL_law 1303 = .ok (.irem, 1) := by decide +kernel
theorem dL_law_1304 : decode cL_law 1304 = .ok (.invokestatic 20, 3) := by decide +kernel
theorem dL_law_1307 : decode cL_law 1307 = .ok (.iadd, 1) := by decide +kernel
theorem dL_law_1308 : decode cL_law 1308 = .ok (.aload 13, 2) := by decide +kernel
theorem dL_law_1310 : decode cL_law 1310 = .ok (.bipush 14, 2) := by decide +kernel
theorem dL_law_1312 : decode cL_law 1312 = .ok (.iaload, 1) := by decide +kernel
theorem dL_law_1313 : decode cL_law 1313 = .ok (.aload 14, 2) := by decide +kernel
theorem dL_law_1315 : decode cL_law 1315 = .ok (.iconst 0, 1) := by decide +kernel
theorem dL_law_1316 : decode cL_law 1316 = .ok (.iaload, 1) := by decide +kernel
theorem dL_law_1317 : decode cL_law 1317 = .ok (.sipush 720, 3) := by decide +kernel
theorem dL_law_1320 : decode cL_law 1320 = .ok (.irem, 1) := by decide +kernel
theorem dL_law_1321 : decode cL_law 1321 = .ok (.invokestatic 20, 3) := by decide +kernel
theorem dL_law_1324 : decode cL_law 1324 = .ok (.iadd, 1) := by decide +kernel
theorem dL_law_1325 : decode cL_law 1325 = .ok (.aload 13, 2) := by decide +kernel
theorem dL_law_1327 : decode cL_law 1327 = .ok (.bipush 21, 2) := by decide +kernel
theorem dL_law_1329 : decode cL_law 1329 = .ok (.iaload, 1) := by decide +kernel
theorem dL_law_1330 : decode cL_law 1330 = .ok (.aload 14, 2) := by decide +kernel
theorem dL_law_1332 : decode cL_law 1332 = .ok (.iconst 0, 1) := by decide +kernel
theorem dL_law_1333 : decode cL_law 1333 = .ok (.iaload, 1) := by decide +kernel
theorem dL_law_1334 : decode cL_law 1334 = .ok (.sipush 720, 3) := by decide +kernel
theorem dL_law_1337 : decode cL_law 1337 = .ok (.irem, 1) := by decide +kernel
theorem dL_law_1338 : decode cL_law 1338 = .ok (.invokestatic 20, 3) := by decide +kernel
theorem dL_law_1341 : decode cL_law 1341 = .ok (.iadd, 1) := by decide +kernel
theorem dL_law_1342 : decode cL_law 1342 = .ok (.istore 15, 2) := by decide +kernel
theorem dL_law_1344 : decode cL_law 1344 = .ok (.iload 12, 2) := by decide +kernel
theorem dL_law_1346 : decode cL_law 1346 = .ok (.ifCond .le 15, 3) := by decide +kernel
theorem dL_law_1349 : decode cL_law 1349 = .ok (.iload 15, 2) := by decide +kernel
theorem dL_law_1351 : decode cL_law 1351 = .ok (.iload 11, 2) := by decide +kernel
theorem dL_law_1353 : decode cL_law 1353 = .ok (.if_icmp .ge 8, 3) := by decide +kernel
theorem dL_law_1356 : decode cL_law 1356 = .ok (.iload 12, 2) := by decide +kernel
theorem dL_law_1358 : decode cL_law 1358 = .ok (.goto 5, 3) := by decide +kernel
theorem dL_law_1361 : decode cL_law 1361 = .ok (.iload 10, 2) := by decide +kernel
theorem dL_law_1363 : decode cL_law 1363 = .ok (.istore 10, 2) := by decide +kernel
theorem dL_law_1365 : decode cL_law 1365 = .ok (.iload 12, 2) := by decide +kernel
theorem dL_law_1367 : decode cL_law 1367 = .ok (.ifCond .eq 10, 3) := by decide +kernel
theorem dL_law_1370 : decode cL_law 1370 = .ok (.iload 15, 2) := by decide +kernel
theorem dL_law_1372 : decode cL_law 1372 = .ok (.iload 11, 2) := by decide +kernel
theorem dL_law_1374 : decode cL_law 1374 = .ok (.if_icmp .ge 8, 3) := by decide +kernel
theorem dL_law_1377 : decode cL_law 1377 = .ok (.iload 15, 2) := by decide +kernel
theorem dL_law_1379 : decode cL_law 1379 = .ok (.goto 5, 3) := by decide +kernel
theorem dL_law_1382 : decode cL_law 1382 = .ok (.iload 11, 2) := by decide +kernel
theorem dL_law_1384 : decode cL_law 1384 = .ok (.istore 11, 2) := by decide +kernel
theorem dL_law_1386 : decode cL_law 1386 = .ok (.iinc 12 1, 3) := by decide +kernel
theorem dL_law_1389 : decode cL_law 1389 = .ok (.goto (-208), 3) := by decide +kernel
theorem dL_law_1392 : decode cL_law 1392 = .ok (.aload_n 1, 1) := by decide +kernel
theorem dL_law_1393 : decode cL_law 1393 = .ok (.invokevirtual 114, 3) := by decide +kernel
theorem dL_law_1396 : decode cL_law 1396 = .ok (.iload 10, 2) := by decide +kernel
theorem dL_law_1398 : decode cL_law 1398 = .ok (.if_icmp .eq 5, 3) := by decide +kernel
theorem dL_law_1401 : decode cL_law 1401 = .ok (.iconst 0, 1) := by decide +kernel
theorem dL_law_1402 : decode cL_law 1402 = .ok (.ireturn, 1) := by decide +kernel
theorem dL_law_1403 : decode cL_law 1403 = .ok (.iinc 5 1, 3) := by decide +kernel
theorem dL_law_1406 : decode cL_law 1406 = .ok (.goto (-1326), 3) := by decide +kernel
theorem dL_law_1409 : decode cL_law 1409 = .ok (.iconst 1, 1) := by decide +kernel
theorem dL_law_1410 : decode cL_law 1410 = .ok (.ireturn, 1) := by decide +kernel
