theorem dL_begins_400 : decode cL_begins 400 = .ok (.invokestatic 51, 3) := by decide +kernel
theorem dL_begins_403 : decode cL_begins 403 = .ok (.istore 8, 2) := by decide +kernel
theorem dL_begins_405 : decode cL_begins 405 = .ok (.new 35, 3) := by decide +kernel
theorem dL_begins_408 : decode cL_begins 408 = .ok (.dup, 1) := by decide +kernel
theorem dL_begins_409 : decode cL_begins 409 = .ok (.invokespecial 37, 3) := by decide +kernel
theorem dL_begins_412 : decode cL_begins 412 = .ok (.aload 5, 2) := by decide +kernel
theorem dL_begins_414 : decode cL_begins 414 = .ok (.invokevirtual 38, 3) := by decide +kernel
theorem dL_begins_417 : decode cL_begins 417 = .ok (.ldc 94, 2) := by decide +kernel
theorem dL_begins_419 : decode cL_begins 419 = .ok (.invokevirtual 38, 3) := by decide +kernel
theorem dL_begins_422 : decode cL_begins 422 = .ok (.ldc 90, 2) := by decide +kernel
theorem dL_begins_424 : decode cL_begins 424 = .ok (.aload_n 1, 1) := by decide +kernel
theorem dL_begins_425 : decode cL_begins 425 = .ok (.sipush 152, 3) := by decide +kernel
theorem dL_begins_428 : decode cL_begins 428 = .ok (.iload 7, 2) := by decide +kernel
theorem dL_begins_430 : decode cL_begins 430 = .ok (.iadd, 1) := by decide +kernel
theorem dL_begins_431 : decode cL_begins 431 = .ok (.iload 4, 2) := by decide +kernel
theorem dL_begins_433 : decode cL_begins 433 = .ok (.invokestatic 51, 3) := by decide +kernel
theorem dL_begins_436 : decode cL_begins 436 = .ok (.invokestatic 59, 3) := by decide +kernel
theorem dL_begins_439 : decode cL_begins 439 = .ok (.invokevirtual 38, 3) := by decide +kernel
theorem dL_begins_442 : decode cL_begins 442 = .ok (.ldc 55, 2) := by decide +kernel
theorem dL_begins_444 : decode cL_begins 444 = .ok (.invokevirtual 38, 3) := by decide +kernel
theorem dL_begins_447 : decode cL_begins 447 = .ok (.aload_n 1, 1) := by decide +kernel
theorem dL_begins_448 : decode cL_begins 448 = .ok (.sipush 154, 3) := by decide +kernel
theorem dL_begins_451 : decode cL_begins 451 = .ok (.iload 7, 2) := by decide +kernel
theorem dL_begins_453 : decode cL_begins 453 = .ok (.iadd, 1) := by decide +kernel
theorem dL_begins_454 : decode cL_begins 454 = .ok (.sipush 4000, 3) := by decide +kernel
theorem dL_begins_457 : decode cL_begins 457 = .ok (.invokestatic 51, 3) := by decide +kernel
theorem dL_begins_460 : decode cL_begins 460 = .ok (.invokevirtual 63, 3) := by decide +kernel
theorem dL_begins_463 : decode cL_begins 463 = .ok (.ldc 96, 2) := by decide +kernel
theorem dL_begins_465 : decode cL_begins 465 = .ok (.invokevirtual 38, 3) := by decide +kernel
theorem dL_begins_468 : decode cL_begins 468 = .ok (.iload 8, 2) := by decide +kernel
theorem dL_begins_470 : decode cL_begins 470 = .ok (.invokevirtual 63, 3) := by decide +kernel
theorem dL_begins_473 : decode cL_begins 473 = .ok (.ldc 98, 2) := by decide +kernel
theorem dL_begins_475 : decode cL_begins 475 = .ok (.invokevirtual 38, 3) := by decide +kernel
theorem dL_begins_478 : decode cL_begins 478 = .ok (.iload 8, 2) := by decide +kernel
theorem dL_begins_480 : decode cL_begins 480 = .ok (.aload_n 1, 1) := by decide +kernel
theorem dL_begins_481 : decode cL_begins 481 = .ok (.sipush 156, 3) := by decide +kernel
theorem dL_begins_484 : decode cL_begins 484 = .ok (.iload 7, 2) := by decide +kernel
theorem dL_begins_486 : decode cL_begins 486 = .ok (.iadd, 1) := by decide +kernel
theorem dL_begins_487 : decode cL_begins 487 = .ok (.bipush 30, 2) := by decide +kernel
theorem dL_begins_489 : decode cL_begins 489 = .ok (.invokestatic 51, 3) := by decide +kernel
theorem dL_begins_492 : decode cL_begins 492 = .ok (.iadd, 1) := by decide +kernel
theorem dL_begins_493 : decode cL_begins 493 = .ok (.invokevirtual 63, 3) := by decide +kernel
theorem dL_begins_496 : decode cL_begins 496 = .ok (.ldc 100, 2) := by decide +kernel
theorem dL_begins_498 : decode cL_begins 498 = .ok (.invokevirtual 38, 3) := by decide +kernel
theorem dL_begins_501 : decode cL_begins 501 = .ok (.ldc 57, 2) := by decide +kernel
theorem dL_begins_503 : decode cL_begins 503 = .ok (.aload_n 1, 1) := by decide +kernel
theorem dL_begins_504 : decode cL_begins 504 = .ok (.sipush 158, 3) := by decide +kernel
theorem dL_begins_507 : decode cL_begins 507 = .ok (.iload 7, 2) := by decide +kernel
theorem dL_begins_509 : decode cL_begins 509 = .ok (.iadd, 1) := by decide +kernel
theorem dL_begins_510 : decode cL_begins 510 = .ok (.iload_n 2, 1) := by decide +kernel
theorem dL_begins_511 : decode cL_begins 511 = .ok (.invokestatic 51, 3) := by decide +kernel
theorem dL_begins_514 : decode cL_begins 514 = .ok (.invokestatic 59, 3) := by decide +kernel
theorem dL_begins_517 : decode cL_begins 517 = .ok (.invokevirtual 38, 3) := by decide +kernel
theorem dL_begins_520 : decode cL_begins 520 = .ok (.ldc 55, 2) := by decide +kernel
theorem dL_begins_522 : decode cL_begins 522 = .ok (.invokevirtual 38, 3) := by decide +kernel
theorem dL_begins_525 : decode cL_begins 525 = .ok (.aload_n 1, 1) := by decide +kernel
theorem dL_begins_526 : decode cL_begins 526 = .ok (.sipush 160, 3) := by decide +kernel
theorem dL_begins_529 : decode cL_begins 529 = .ok (.iload 7, 2) := by decide +kernel
theorem dL_begins_531 : decode cL_begins 531 = .ok (.iadd, 1) := by decide +kernel
theorem dL_begins_532 : decode cL_begins 532 = .ok (.sipush 2000, 3) := by decide +kernel
theorem dL_begins_535 : decode cL_begins 535 = .ok (.invokestatic 51, 3) := by decide +kernel
theorem dL_begins_538 : decode cL_begins 538 = .ok (.invokevirtual 63, 3) := by decide +kernel
theorem dL_begins_541 : decode cL_begins 541 = .ok (.ldc 102, 2) := by decide +kernel
theorem dL_begins_543 : decode cL_begins 543 = .ok (.invokevirtual 38, 3) := by decide +kernel
theorem dL_begins_546 : decode cL_begins 546 = .ok (.aload_n 1, 1) := by decide +kernel
theorem dL_begins_547 : decode cL_begins 547 = .ok (.sipush 162, 3) := by decide +kernel
theorem dL_begins_550 : decode cL_begins 550 = .ok (.iload 7, 2) := by decide +kernel
theorem dL_begins_552 : decode cL_begins 552 = .ok (.iadd, 1) := by decide +kernel
theorem dL_begins_553 : decode cL_begins 553 = .ok (.bipush 60, 2) := by decide +kernel
theorem dL_begins_555 : decode cL_begins 555 = .ok (.invokestatic 51, 3) := by decide +kernel
theorem dL_begins_558 : decode cL_begins 558 = .ok (.invokevirtual 63, 3) := by decide +kernel
theorem dL_begins_561 : decode cL_begins 561 = .ok (.ldc 74, 2) := by decide +kernel
theorem dL_begins_563 : decode cL_begins 563 = .ok (.invokevirtual 38, 3) := by decide +kernel
theorem dL_begins_566 : decode cL_begins 566 = .ok (.invokevirtual 45, 3) := by decide +kernel
theorem dL_begins_569 : decode cL_begins 569 = .ok (.astore 5, 2) := by decide +kernel
theorem dL_begins_571 : decode cL_begins 571 = .ok (.iinc 6 2, 3) := by decide +kernel
theorem dL_begins_574 : decode cL_begins 574 = .ok (.iinc 7 1, 3) := by decide +kernel
theorem dL_begins_577 : decode cL_begins 577 = .ok (.goto (-192), 3) := by decide +kernel
theorem dL_begins_580 : decode cL_begins 580 = .ok (.aload_n 0, 1) := by decide +kernel
theorem dL_begins_581 : decode cL_begins 581 = .ok (.aload 5, 2) := by decide +kernel
theorem dL_begins_583 : decode cL_begins 583 = .ok (.invokestatic 104, 3) := by decide +kernel
theorem dL_begins_586 : decode cL_begins 586 = .ok (.iload 6, 2) := by decide +kernel
theorem dL_begins_588 : decode cL_begins 588 = .ok (.if_icmp .eq 5, 3) := by decide +kernel
theorem dL_begins_591 : decode cL_begins 591 = .ok (.iconst 0, 1) := by decide +kernel
theorem dL_begins_592 : decode cL_begins 592 = .ok (.ireturn, 1) := by decide +kernel
theorem dL_begins_593 : decode cL_begins 593 = .ok (.iconst 0, 1) := by decide +kernel
theorem dL_begins_594 : decode cL_begins 594 = .ok (.istore 7, 2) := by decide +kernel
theorem dL_begins_596 : decode cL_begins 596 = .ok (.iload 7, 2) := by decide +kernel
theorem dL_begins_598 : decode cL_begins 598 = .ok (.aload_n 1, 1) := by decide +kernel
theorem dL_begins_599 : decode cL_begins 599 = .ok (.sipush 170, 3) := by decide +kernel
theorem dL_begins_602 : decode cL_begins 602 = .ok (.iconst 4, 1) := by decide +kernel
theorem dL_begins_603 : decode cL_begins 603 = .ok (.invokestatic 51, 3) := by decide +kernel
theorem dL_begins_606 : decode cL_begins 606 = .ok (.if_icmp .ge 160, 3) := by decide +kernel
theorem dL_begins_609 : decode cL_begins 609 = .ok (.aload_n 1, 1) := by decide +kernel
theorem dL_begins_610 : decode cL_begins 610 = .ok (.sipush 171, 3) := by decide +kernel
theorem dL_begins_613 : decode cL_begins 613 = .ok (.iload 7, 2) := by decide +kernel
theorem dL_begins_615 : decode cL_begins 615 = .ok (.iadd, 1) := by decide +kernel
theorem dL_begins_616 : decode cL_begins 616 = .ok (.invokestatic 8, 3) := by decide +kernel
theorem dL_begins_619 : decode cL_begins 619 = .ok (.istore 8, 2) := by decide +kernel
theorem dL_begins_621 : decode cL_begins 621 = .ok (.iload 8, 2) := by decide +kernel
theorem dL_begins_623 : decode cL_begins 623 = .ok (.iconst 3, 1) := by decide +kernel
theorem dL_begins_624 : decode cL_begins 624 = .ok (.iushr, 1) := by decide +kernel
theorem dL_begins_625 : decode cL_begins 625 = .ok (.sipush 255, 3) := by decide +kernel
theorem dL_begins_628 : decode cL_begins 628 = .ok (.iand, 1) := by decide +kernel
theorem dL_begins_629 : decode cL_begins 629 = .ok (.iload_n 2, 1) := by decide +kernel
theorem dL_begins_630 : decode cL_begins 630 = .ok (.irem, 1) := by decide +kernel
theorem dL_begins_631 : decode cL_begins 631 = .ok (.istore 9, 2) := by decide +kernel
theorem dL_begins_633 : decode cL_begins 633 = .ok (.iload 8, 2) := by decide +kernel
theorem dL_begins_635 : decode cL_begins 635 = .ok (.iconst 3, 1) := by decide +kernel
theorem dL_begins_636 : decode cL_begins 636 = .ok (.iand, 1) := by decide +kernel
theorem dL_begins_637 : decode cL_begins 637 = .ok (.ifCond .ne 21, 3) := by decide +kernel
theorem dL_begins_640 : decode cL_begins 640 = .ok (.aload_n 0, 1) := by decide +kernel
theorem dL_begins_641 : decode cL_begins 641 = .ok (.iload 9, 2) := by decide +kernel
theorem dL_begins_643 : decode cL_begins 643 = .ok (.iload 9, 2) := by decide +kernel
theorem dL_begins_645 : decode cL_begins 645 = .ok (.iconst 1, 1) := by decide +kernel
theorem dL_begins_646 : decode cL_begins 646 = .ok (.iadd, 1) := by decide +kernel
theorem dL_begins_647 : decode cL_begins 647 = .ok (.iload_n 2, 1) := by decide +kernel
theorem dL_begins_648 : decode cL_begins 648 = .ok (.irem, 1) := by decide +kernel
theorem dL_begins_649 : decode cL_begins 649 = .ok (.invokevirtual 108, 3) := by decide +kernel
theorem dL_begins_652 : decode cL_begins 652 = .ok (.iconst 1, 1) := by decide +kernel
theorem dL_begins_653 : decode cL_begins 653 = .ok (.if_icmp .ge 5, 3) := by decide +kernel
theorem dL_begins_656 : decode cL_begins 656 = .ok (.iconst 0, 1) := by decide +kernel
theorem dL_begins_657 : decode cL_begins 657 = .ok (.ireturn, 1) := by decide +kernel
theorem dL_begins_658 : decode cL_begins 658 = .ok (.iload 8, 2) := by decide +kernel
theorem dL_begins_660 : decode cL_begins 660 = .ok (.iconst 3, 1) := by decide +kernel
theorem dL_begins_661 : decode cL_begins 661 = .ok (.iand, 1) := by decide +kernel
theorem dL_begins_662 : decode cL_begins 662 = .ok (.iconst 1, 1) := by decide +kernel
theorem dL_begins_663 : decode cL_begins 663 = .ok (.if_icmp .ne 32, 3) := by decide +kernel
theorem dL_begins_666 : decode cL_begins 666 = .ok (.aload_n 0, 1) := by decide +kernel
theorem dL_begins_667 : decode cL_begins 667 = .ok (.iload 8, 2) := by decide +kernel
