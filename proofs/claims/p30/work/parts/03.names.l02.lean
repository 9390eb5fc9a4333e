theorem dL_act_355 : decode cL_act 355 = .ok (.iconst 1, 1) := by decide +kernel
theorem dL_act_356 : decode cL_act 356 = .ok (.isub, 1) := by decide +kernel
theorem dL_act_357 : decode cL_act 357 = .ok (.if_icmp .ne 7, 3) := by decide +kernel
theorem dL_act_360 : decode cL_act 360 = .ok (.iconst 1, 1) := by decide +kernel
theorem dL_act_361 : decode cL_act 361 = .ok (.goto 4, 3) := by decide +kernel
theorem dL_act_364 : decode cL_act 364 = .ok (.iconst 0, 1) := by decide +kernel
theorem dL_act_365 : decode cL_act 365 = .ok (.ireturn, 1) := by decide +kernel
theorem dL_act_366 : decode cL_act 366 = .ok (.aload 10, 2) := by decide +kernel
theorem dL_act_368 : decode cL_act 368 = .ok (.bipush 6, 2) := by decide +kernel
theorem dL_act_370 : decode cL_act 370 = .ok (.iaload, 1) := by decide +kernel
theorem dL_act_371 : decode cL_act 371 = .ok (.ifCond .ne 5, 3) := by decide +kernel
theorem dL_act_374 : decode cL_act 374 = .ok (.iconst 1, 1) := by decide +kernel
theorem dL_act_375 : decode cL_act 375 = .ok (.ireturn, 1) := by decide +kernel
theorem dL_act_376 : decode cL_act 376 = .ok (.iload_n 3, 1) := by decide +kernel
theorem dL_act_377 : decode cL_act 377 = .ok (.aload 10, 2) := by decide +kernel
theorem dL_act_379 : decode cL_act 379 = .ok (.bipush 6, 2) := by decide +kernel
theorem dL_act_381 : decode cL_act 381 = .ok (.iaload, 1) := by decide +kernel
theorem dL_act_382 : decode cL_act 382 = .ok (.invokestatic 69, 3) := by decide +kernel
theorem dL_act_385 : decode cL_act 385 = .ok (.istore 11, 2) := by decide +kernel
theorem dL_act_387 : decode cL_act 387 = .ok (.iload_n 1, 1) := by decide +kernel
theorem dL_act_388 : decode cL_act 388 = .ok (.bipush 8, 2) := by decide +kernel
theorem dL_act_390 : decode cL_act 390 = .ok (.if_icmp .ge 68, 3) := by decide +kernel
theorem dL_act_393 : decode cL_act 393 = .ok (.aload 4, 2) := by decide +kernel
theorem dL_act_395 : decode cL_act 395 = .ok (.bipush 7, 2) := by decide +kernel
theorem dL_act_397 : decode cL_act 397 = .ok (.iload 11, 2) := by decide +kernel
theorem dL_act_399 : decode cL_act 399 = .ok (.imul, 1) := by decide +kernel
theorem dL_act_400 : decode cL_act 400 = .ok (.iconst 3, 1) := by decide +kernel
theorem dL_act_401 : decode cL_act 401 = .ok (.iadd, 1) := by decide +kernel
theorem dL_act_402 : decode cL_act 402 = .ok (.iaload, 1) := by decide +kernel
theorem dL_act_403 : decode cL_act 403 = .ok (.istore 12, 2) := by decide +kernel
theorem dL_act_405 : decode cL_act 405 = .ok (.aload 4, 2) := by decide +kernel
theorem dL_act_407 : decode cL_act 407 = .ok (.bipush 7, 2) := by decide +kernel
theorem dL_act_409 : decode cL_act 409 = .ok (.iload 11, 2) := by decide +kernel
theorem dL_act_411 : decode cL_act 411 = .ok (.imul, 1) := by decide +kernel
theorem dL_act_412 : decode cL_act 412 = .ok (.iconst 3, 1) := by decide +kernel
theorem dL_act_413 : decode cL_act 413 = .ok (.iadd, 1) := by decide +kernel
theorem dL_act_414 : decode cL_act 414 = .ok (.iload_n 2, 1) := by decide +kernel
theorem dL_act_415 : decode cL_act 415 = .ok (.iconst 5, 1) := by decide +kernel
theorem dL_act_416 : decode cL_act 416 = .ok (.invokestatic 69, 3) := by decide +kernel
theorem dL_act_419 : decode cL_act 419 = .ok (.iastore, 1) := by decide +kernel
theorem dL_act_420 : decode cL_act 420 = .ok (.aload 4, 2) := by decide +kernel
theorem dL_act_422 : decode cL_act 422 = .ok (.bipush 7, 2) := by decide +kernel
theorem dL_act_424 : decode cL_act 424 = .ok (.iload 11, 2) := by decide +kernel
theorem dL_act_426 : decode cL_act 426 = .ok (.imul, 1) := by decide +kernel
theorem dL_act_427 : decode cL_act 427 = .ok (.iconst 4, 1) := by decide +kernel
theorem dL_act_428 : decode cL_act 428 = .ok (.iadd, 1) := by decide +kernel
theorem dL_act_429 : decode cL_act 429 = .ok (.iconst 0, 1) := by decide +kernel
theorem dL_act_430 : decode cL_act 430 = .ok (.iastore, 1) := by decide +kernel
theorem dL_act_431 : decode cL_act 431 = .ok (.aload_n 0, 1) := by decide +kernel
theorem dL_act_432 : decode cL_act 432 = .ok (.iload 11, 2) := by decide +kernel
theorem dL_act_434 : decode cL_act 434 = .ok (.aload 4, 2) := by decide +kernel
theorem dL_act_436 : decode cL_act 436 = .ok (.bipush 7, 2) := by decide +kernel
theorem dL_act_438 : decode cL_act 438 = .ok (.iload 11, 2) := by decide +kernel
theorem dL_act_440 : decode cL_act 440 = .ok (.imul, 1) := by decide +kernel
theorem dL_act_441 : decode cL_act 441 = .ok (.iconst 3, 1) := by decide +kernel
theorem dL_act_442 : decode cL_act 442 = .ok (.iadd, 1) := by decide +kernel
theorem dL_act_443 : decode cL_act 443 = .ok (.iaload, 1) := by decide +kernel
theorem dL_act_444 : decode cL_act 444 = .ok (.invokevirtual 134, 3) := by decide +kernel
theorem dL_act_447 : decode cL_act 447 = .ok (.iload 12, 2) := by decide +kernel
theorem dL_act_449 : decode cL_act 449 = .ok (.if_icmp .ne 7, 3) := by decide +kernel
theorem dL_act_452 : decode cL_act 452 = .ok (.iconst 1, 1) := by decide +kernel
theorem dL_act_453 : decode cL_act 453 = .ok (.goto 4, 3) := by decide +kernel
theorem dL_act_456 : decode cL_act 456 = .ok (.iconst 0, 1) := by decide +kernel
theorem dL_act_457 : decode cL_act 457 = .ok (.ireturn, 1) := by decide +kernel
theorem dL_act_458 : decode cL_act 458 = .ok (.iload_n 1, 1) := by decide +kernel
theorem dL_act_459 : decode cL_act 459 = .ok (.bipush 11, 2) := by decide +kernel
theorem dL_act_461 : decode cL_act 461 = .ok (.if_icmp .ge 107, 3) := by decide +kernel
theorem dL_act_464 : decode cL_act 464 = .ok (.iload 11, 2) := by decide +kernel
theorem dL_act_466 : decode cL_act 466 = .ok (.aload 6, 2) := by decide +kernel
theorem dL_act_468 : decode cL_act 468 = .ok (.invokestatic 44, 3) := by decide +kernel
theorem dL_act_471 : decode cL_act 471 = .ok (.istore 12, 2) := by decide +kernel
theorem dL_act_473 : decode cL_act 473 = .ok (.iload 12, 2) := by decide +kernel
theorem dL_act_475 : decode cL_act 475 = .ok (.ifCond .lt 10, 3) := by decide +kernel
theorem dL_act_478 : decode cL_act 478 = .ok (.iload 12, 2) := by decide +kernel
theorem dL_act_480 : decode cL_act 480 = .ok (.aload 6, 2) := by decide +kernel
theorem dL_act_482 : decode cL_act 482 = .ok (.invokestatic 22, 3) := by decide +kernel
theorem dL_act_485 : decode cL_act 485 = .ok (.iload_n 2, 1) := by decide +kernel
theorem dL_act_486 : decode cL_act 486 = .ok (.aload 6, 2) := by decide +kernel
theorem dL_act_488 : decode cL_act 488 = .ok (.iconst 0, 1) := by decide +kernel
theorem dL_act_489 : decode cL_act 489 = .ok (.iaload, 1) := by decide +kernel
theorem dL_act_490 : decode cL_act 490 = .ok (.iconst 1, 1) := by decide +kernel
theorem dL_act_491 : decode cL_act 491 = .ok (.iadd, 1) := by decide +kernel
theorem dL_act_492 : decode cL_act 492 = .ok (.invokestatic 69, 3) := by decide +kernel
theorem dL_act_495 : decode cL_act 495 = .ok (.istore 13, 2) := by decide +kernel
theorem dL_act_497 : decode cL_act 497 = .ok (.aload 6, 2) := by decide +kernel
theorem dL_act_499 : decode cL_act 499 = .ok (.iconst 0, 1) := by decide +kernel
theorem dL_act_500 : decode cL_act 500 = .ok (.dup2, 1) := by decide +kernel
theorem dL_act_501 : decode cL_act 501 = .ok (.iaload, 1) := by decide +kernel
theorem dL_act_502 : decode cL_act 502 = .ok (.iconst 1, 1) := by decide +kernel
theorem dL_act_503 : decode cL_act 503 = .ok (.iadd, 1) := by decide +kernel
theorem dL_act_504 : decode cL_act 504 = .ok (.iastore, 1) := by decide +kernel
theorem dL_act_505 : decode cL_act 505 = .ok (.aload 6, 2) := by decide +kernel
theorem dL_act_507 : decode cL_act 507 = .ok (.iconst 0, 1) := by decide +kernel
theorem dL_act_508 : decode cL_act 508 = .ok (.iaload, 1) := by decide +kernel
theorem dL_act_509 : decode cL_act 509 = .ok (.istore 14, 2) := by decide +kernel
theorem dL_act_511 : decode cL_act 511 = .ok (.iload 14, 2) := by decide +kernel
theorem dL_act_513 : decode cL_act 513 = .ok (.iload 13, 2) := by decide +kernel
theorem dL_act_515 : decode cL_act 515 = .ok (.iconst 1, 1) := by decide +kernel
theorem dL_act_516 : decode cL_act 516 = .ok (.iadd, 1) := by decide +kernel
theorem dL_act_517 : decode cL_act 517 = .ok (.if_icmp .le 21, 3) := by decide +kernel
theorem dL_act_520 : decode cL_act 520 = .ok (.aload 6, 2) := by decide +kernel
theorem dL_act_522 : decode cL_act 522 = .ok (.iload 14, 2) := by decide +kernel
theorem dL_act_524 : decode cL_act 524 = .ok (.aload 6, 2) := by decide +kernel
theorem dL_act_526 : decode cL_act 526 = .ok (.iload 14, 2) := by decide +kernel
theorem dL_act_528 : decode cL_act 528 = .ok (.iconst 1, 1) := by decide +kernel
theorem dL_act_529 : decode cL_act 529 = .ok (.isub, 1) := by decide +kernel
theorem dL_act_530 : decode cL_act 530 = .ok (.iaload, 1) := by decide +kernel
theorem dL_act_531 : decode cL_act 531 = .ok (.iastore, 1) := by decide +kernel
theorem dL_act_532 : decode cL_act 532 = .ok (.iinc 14 (-1), 3) := by decide +kernel
theorem dL_act_535 : decode cL_act 535 = .ok (.goto (-24), 3) := by decide +kernel
theorem dL_act_538 : decode cL_act 538 = .ok (.aload 6, 2) := by decide +kernel
theorem dL_act_540 : decode cL_act 540 = .ok (.iload 13, 2) := by decide +kernel
theorem dL_act_542 : decode cL_act 542 = .ok (.iconst 1, 1) := by decide +kernel
theorem dL_act_543 : decode cL_act 543 = .ok (.iadd, 1) := by decide +kernel
theorem dL_act_544 : decode cL_act 544 = .ok (.iload 11, 2) := by decide +kernel
theorem dL_act_546 : decode cL_act 546 = .ok (.iastore, 1) := by decide +kernel
theorem dL_act_547 : decode cL_act 547 = .ok (.aload_n 0, 1) := by decide +kernel
theorem dL_act_548 : decode cL_act 548 = .ok (.iload 11, 2) := by decide +kernel
theorem dL_act_550 : decode cL_act 550 = .ok (.iload 13, 2) := by decide +kernel
theorem dL_act_552 : decode cL_act 552 = .ok (.invokevirtual 137, 3) := by decide +kernel
theorem dL_act_555 : decode cL_act 555 = .ok (.aload 6, 2) := by decide +kernel
theorem dL_act_557 : decode cL_act 557 = .ok (.iconst 0, 1) := by decide +kernel
theorem dL_act_558 : decode cL_act 558 = .ok (.iaload, 1) := by decide +kernel
theorem dL_act_559 : decode cL_act 559 = .ok (.if_icmp .ne 7, 3) := by decide +kernel
theorem dL_act_562 : decode cL_act 562 = .ok (.iconst 1, 1) := by decide +kernel
theorem dL_act_563 : decode cL_act 563 = .ok (.goto 4, 3) := by decide +kernel
theorem dL_act_566 : decode cL_act 566 = .ok (.iconst 0, 1) := by decide +kernel
theorem dL_act_567 : decode cL_act 567 = .ok (.ireturn, 1) := by decide +kernel
theorem dL_act_568 : decode cL_act 568 = .ok (.iload_n 1, 1) := by decide +kernel
theorem dL_act_569 : decode cL_act 569 = .ok (.bipush 11, 2) := by decide +kernel
theorem dL_act_571 : decode cL_act 571 = .ok (.if_icmp .ne 43, 3) := by decide +kernel
theorem dL_act_574 : decode cL_act 574 = .ok (.iload 11, 2) := by decide +kernel
theorem dL_act_576 : decode cL_act 576 = .ok (.aload 6, 2) := by decide +kernel
theorem dL_act_578 : decode cL_act 578 = .ok (.invokestatic 44, 3) := by decide +kernel
theorem dL_act_581 : decode cL_act 581 = .ok (.istore 12, 2) := by decide +kernel
theorem dL_act_583 : decode cL_act 583 = .ok (.iload 12, 2) := by decide +kernel
theorem dL_act_585 : decode cL_act 585 = .ok (.ifCond .ge 5, 3) := by decide +kernel
theorem dL_act_588 : decode cL_act 588 = .ok (.iconst 1, 1) := by decide +kernel
theorem dL_act_589 : decode cL_act 589 = .ok (.ireturn, 1) := by decide +kernel
theorem dL_act_590 : decode cL_act 590 = .ok (.iload 12, 2) := by decide +kernel
theorem dL_act_592 : decode cL_act 592 = .ok (.aload 6, 2) := by decide +kernel
theorem dL_act_594 : decode cL_act 594 = .ok (.invokestatic 22, 3) := by decide +kernel
theorem dL_act_597 : decode cL_act 597 = .ok (.aload_n 0, 1) := by decide +kernel
theorem dL_act_598 : decode cL_act 598 = .ok (.iload 11, 2) := by decide +kernel
theorem dL_act_600 : decode cL_act 600 = .ok (.invokevirtual 140, 3) := by decide +kernel
theorem dL_act_603 : decode cL_act 603 = .ok (.iload 12, 2) := by decide +kernel
theorem dL_act_605 : decode cL_act 605 = .ok (.if_icmp .ne 7, 3) := by decide +kernel
theorem dL_act_608 : decode cL_act 608 = .ok (.iconst 1, 1) := by decide +kernel
theorem dL_act_609 : decode cL_act 609 = .ok (.goto 4, 3) := by decide +kernel
theorem dL_act_612 : decode cL_act 612 = .ok (.iconst 0, 1) := by decide +kernel
theorem dL_act_613 : decode cL_act 613 = .ok (.ireturn, 1) := by decide +kernel
theorem dL_act_614 : decode cL_act 614 = .ok (.iload_n 1, 1) := by decide +kernel
theorem dL_act_615 : decode cL_act 615 = .ok (.bipush 14, 2) := by decide +kernel
theorem dL_act_617 : decode cL_act 617 = .ok (.if_icmp .ge 81, 3) := by decide +kernel
theorem dL_act_620 : decode cL_act 620 = .ok (.aload 10, 2) := by decide +kernel
theorem dL_act_622 : decode cL_act 622 = .ok (.bipush 7, 2) := by decide +kernel
theorem dL_act_624 : decode cL_act 624 = .ok (.iaload, 1) := by decide +kernel
theorem dL_act_625 : decode cL_act 625 = .ok (.bipush 10, 2) := by decide +kernel
theorem dL_act_627 : decode cL_act 627 = .ok (.if_icmp .ne 5, 3) := by decide +kernel
theorem dL_act_630 : decode cL_act 630 = .ok (.iconst 1, 1) := by decide +kernel
theorem dL_act_631 : decode cL_act 631 = .ok (.ireturn, 1) := by decide +kernel
theorem dL_act_632 : decode cL_act 632 = .ok (.aload 5, 2) := by decide +kernel
theorem dL_act_634 : decode cL_act 634 = .ok (.iconst 2, 1) := by decide +kernel
theorem dL_act_635 : decode cL_act 635 = .ok (.aload 10, 2) := by decide +kernel
theorem dL_act_637 : decode cL_act 637 = .ok (.bipush 7, 2) := by decide +kernel
theorem dL_act_639 : decode cL_act 639 = .ok (.iaload, 1) := by decide +kernel
theorem dL_act_640 : decode cL_act 640 = .ok (.imul, 1) := by decide +kernel
theorem dL_act_641 : decode cL_act 641 = .ok (.iload 11, 2) := by decide +kernel
theorem dL_act_643 : decode cL_act 643 = .ok (.iastore, 1) := by decide +kernel
theorem dL_act_644 : decode cL_act 644 = .ok (.aload 5, 2) := by decide +kernel
theorem dL_act_646 : decode cL_act 646 = .ok (.iconst 2, 1) := by decide +kernel
theorem dL_act_647 : decode cL_act 647 = .ok (.aload 10, 2) := by decide +kernel
theorem dL_act_649 : decode cL_act 649 = .ok (.bipush 7, 2) := by decide +kernel
theorem dL_act_651 : decode cL_act 651 = .ok (.iaload, 1) := by decide +kernel
theorem dL_act_652 : decode cL_act 652 = .ok (.imul, 1) := by decide +kernel
theorem dL_act_653 : decode cL_act 653 = .ok (.iconst 1, 1) := by decide +kernel
theorem dL_act_654 : decode cL_act 654 = .ok (.iadd, 1) := by decide +kernel
theorem dL_act_655 : decode cL_act 655 = .ok (.aload 4, 2) := by decide +kernel
theorem dL_act_657 : decode cL_act 657 = .ok (.bipush 7, 2) := by decide +kernel
theorem dL_act_659 : decode cL_act 659 = .ok (.iload 11, 2) := by decide +kernel
theorem dL_act_661 : decode cL_act 661 = .ok (.imul, 1) := by decide +kernel
theorem dL_act_662 : decode cL_act 662 = .ok (.iconst 1, 1) := by decide +kernel
theorem dL_act_663 : decode cL_act 663 = .ok (.iadd, 1) := by decide +kernel
theorem dL_act_664 : decode cL_act 664 = .ok (.iaload, 1) := by decide +kernel
theorem dL_act_665 : decode cL_act 665 = .ok (.bipush 10, 2) := by decide +kernel
theorem dL_act_667 : decode cL_act 667 = .ok (.idiv, 1) := by decide +kernel
theorem dL_act_668 : decode cL_act 668 = .ok (.iastore, 1) := by decide +kernel
theorem dL_act_669 : decode cL_act 669 = .ok (.aload 10, 2) := by decide +kernel
theorem dL_act_671 : decode cL_act 671 = .ok (.bipush 7, 2) := by decide +kernel
theorem dL_act_673 : decode cL_act 673 = .ok (.dup2, 1) := by decide +kernel
theorem dL_act_674 : decode cL_act 674 = .ok (.iaload, 1) := by decide +kernel
theorem dL_act_675 : decode cL_act 675 = .ok (.iconst 1, 1) := by decide +kernel
theorem dL_act_676 : decode cL_act 676 = .ok (.iadd, 1) := by decide +kernel
theorem dL_act_677 : decode cL_act 677 = .ok (.iastore, 1) := by decide +kernel
theorem dL_act_678 : decode cL_act 678 = .ok (.aload_n 0, 1) := by decide +kernel
theorem dL_act_679 : decode cL_act 679 = .ok (.iload 11, 2) := by decide +kernel
theorem dL_act_681 : decode cL_act 681 = .ok (.invokevirtual 143, 3) := by decide +kernel
theorem dL_act_684 : decode cL_act 684 = .ok (.aload 10, 2) := by decide +kernel
theorem dL_act_686 : decode cL_act 686 = .ok (.bipush 7, 2) := by decide +kernel
theorem dL_act_688 : decode cL_act 688 = .ok (.iaload, 1) := by decide +kernel
theorem dL_act_689 : decode cL_act 689 = .ok (.if_icmp .ne 7, 3) := by decide +kernel
theorem dL_act_692 : decode cL_act 692 = .ok (.iconst 1, 1) := by decide +kernel
theorem dL_act_693 : decode cL_act 693 = .ok (.goto 4, 3) := by decide +kernel
theorem dL_act_696 : decode cL_act 696 = .ok (.iconst 0, 1) := by decide +kernel
theorem dL_act_697 : decode cL_act 697 = .ok (.ireturn, 1) := by decide +kernel
theorem dL_act_698 : decode cL_act 698 = .ok (.iconst 1, 1) := by decide +kernel
theorem dL_act_699 : decode cL_act 699 = .ok (.iload_n 2, 1) := by decide +kernel
theorem dL_act_700 : decode cL_act 700 = .ok (.iload_n 1, 1) := by decide +kernel
theorem dL_act_701 : decode cL_act 701 = .ok (.bipush 14, 2) := by decide +kernel
theorem dL_act_703 : decode cL_act 703 = .ok (.if_icmp .ne 8, 3) := by decide +kernel
theorem dL_act_706 : decode cL_act 706 = .ok (.bipush 40, 2) := by decide +kernel
theorem dL_act_708 : decode cL_act 708 = .ok (.goto 5, 3) := by decide +kernel
theorem dL_act_711 : decode cL_act 711 = .ok (.bipush 6, 2) := by decide +kernel
theorem dL_act_713 : decode cL_act 713 = .ok (.invokestatic 69, 3) := by decide +kernel
theorem dL_act_716 : decode cL_act 716 = .ok (.iadd, 1) := by decide +kernel
theorem dL_act_717 : decode cL_act 717 = .ok (.istore 12, 2) := by decide +kernel
theorem dL_act_719 : decode cL_act 719 = .ok (.iconst 0, 1) := by decide +kernel
theorem dL_act_720 : decode cL_act 720 = .ok (.istore 13, 2) := by decide +kernel
theorem dL_act_722 : decode cL_act 722 = .ok (.iconst 0, 1) := by decide +kernel
theorem dL_act_723 : decode cL_act 723 = .ok (.istore 14, 2) := by decide +kernel
theorem dL_act_725 : decode cL_act 725 = .ok (.iload 14, 2) := by decide +kernel
theorem dL_act_727 : decode cL_act 727 = .ok (.iload 12, 2) := by decide +kernel
theorem dL_act_729 : decode cL_act 729 = .ok (.if_icmp .ge 31, 3) := by decide +kernel
theorem dL_act_732 : decode cL_act 732 = .ok (.iload 13, 2) := by decide +kernel
theorem dL_act_734 : decode cL_act 734 = .ok (.aload 4, 2) := by decide +kernel
theorem dL_act_736 : decode cL_act 736 = .ok (.aload 5, 2) := by decide +kernel
theorem dL_act_738 : decode cL_act 738 = .ok (.aload 6, 2) := by decide +kernel
theorem dL_act_740 : decode cL_act 740 = .ok (.aload 7, 2) := by decide +kernel
theorem dL_act_742 : decode cL_act 742 = .ok (.aload 8, 2) := by decide +kernel
theorem dL_act_744 : decode cL_act 744 = .ok (.aload 9, 2) := by decide +kernel
theorem dL_act_746 : decode cL_act 746 = .ok (.aload 10, 2) := by decide +kernel
theorem dL_act_748 : decode cL_act 748 = .ok (.invokestatic 87, 3) := by decide +kernel
theorem dL_act_751 : decode cL_act 751 = .ok (.iadd, 1) := by decide +kernel
theorem dL_act_752 : decode cL_act 752 = .ok (.istore 13, 2) := by decide +kernel
theorem dL_act_754 : decode cL_act 754 = .ok (.iinc 14 1, 3) := by decide +kernel
theorem dL_act_757 : decode cL_act 757 = .ok (.goto (-32), 3) := by decide +kernel
theorem dL_act_760 : decode cL_act 760 = .ok (.aload_n 0, 1) := by decide +kernel
theorem dL_act_761 : decode cL_act 761 = .ok (.iload 12, 2) := by decide +kernel
theorem dL_act_763 : decode cL_act 763 = .ok (.invokevirtual 146, 3) := by decide +kernel
theorem dL_act_766 : decode cL_act 766 = .ok (.iload 13, 2) := by decide +kernel
theorem dL_act_768 : decode cL_act 768 = .ok (.if_icmp .ne 7, 3) := by decide +kernel
theorem dL_act_771 : decode cL_act 771 = .ok (.iconst 1, 1) := by decide +kernel
theorem dL_act_772 : decode cL_act 772 = .ok (.goto 4, 3) := by decide +kernel
theorem dL_act_775 : decode cL_act 775 = .ok (.iconst 0, 1) := by decide +kernel
theorem dL_act_776 : decode cL_act 776 = .ok (.ireturn, 1) := by decide +kernel
theorem dL_law_0 : decode cL_law 0 = .ok (.new 39, 3) := by decide +kernel
theorem dL_law_3 : decode cL_law 3 = .ok (.dup, 1) := by decide +kernel
theorem dL_law_4 : decode cL_law 4 = .ok (.invokespecial 149, 3) := by decide +kernel
theorem dL_law_7 : decode cL_law 7 = .ok (.astore_n 1, 1) := by decide +kernel
theorem dL_law_8 : decode cL_law 8 = .ok (.bipush 42, 2) := by decide +kernel
theorem dL_law_10 : decode cL_law 10 = .ok (.newarray .int, 2) := by decide +kernel
theorem dL_law_12 : decode cL_law 12 = .ok (.astore_n 2, 1) := by decide +kernel
theorem dL_law_13 : decode cL_law 13 = .ok (.bipush 22, 2) := by decide +kernel
theorem dL_law_15 : decode cL_law 15 = .ok (.newarray .int, 2) := by decide +kernel
theorem dL_law_17 : decode cL_law 17 = .ok (.astore_n 3, 1) := by decide +kernel
theorem dL_law_18 : decode cL_law 18 = .ok (.bipush 9, 2) := by decide +kernel
theorem dL_law_20 : decode cL_law 20 = .ok (.newarray .int, 2) := by decide +kernel
theorem dL_law_22 : decode cL_law 22 = .ok (.astore 4, 2) := by decide +kernel
theorem dL_law_24 : decode cL_law 24 = .ok (.bipush 50, 2) := by decide +kernel
theorem dL_law_26 : decode cL_law 26 = .ok (.newarray .int, 2) := by decide +kernel
theorem dL_law_28 : decode cL_law 28 = .ok (.astore 5, 2) := by decide +kernel
theorem dL_law_30 : decode cL_law 30 = .ok (.bipush 7, 2) := by decide +kernel
theorem dL_law_32 : decode cL_law 32 = .ok (.newarray .int, 2) := by decide +kernel
theorem dL_law_34 : decode cL_law 34 = .ok (.astore 6, 2) := by decide +kernel
theorem dL_law_36 : decode cL_law 36 = .ok (.bipush 16, 2) := by decide +kernel
theorem dL_law_38 : decode cL_law 38 = .ok (.newarray .int, 2) := by decide +kernel
theorem dL_law_40 : decode cL_law 40 = .ok (.astore 7, 2) := by decide +kernel
theorem dL_law_42 : decode cL_law 42 = .ok (.bipush 14, 2) := by decide +kernel
theorem dL_law_44 : decode cL_law 44 = .ok (.newarray .int, 2) := by decide +kernel
theorem dL_law_46 : decode cL_law 46 = .ok (.astore 8, 2) := by decide +kernel
theorem dL_law_48 : decode cL_law 48 = .ok (.aload 6, 2) := by decide +kernel
theorem dL_law_50 : decode cL_law 50 = .ok (.iconst 0, 1) := by decide +kernel
theorem dL_law_51 : decode cL_law 51 = .ok (.bipush 16, 2) := by decide +kernel
theorem dL_law_53 : decode cL_law 53 = .ok (.iastore, 1) := by decide +kernel
theorem dL_law_54 : decode cL_law 54 = .ok (.aload 6, 2) := by decide +kernel
theorem dL_law_56 : decode cL_law 56 = .ok (.iconst 1, 1) := by decide +kernel
theorem dL_law_57 : decode cL_law 57 = .ok (.iconst 5, 1) := by decide +kernel
theorem dL_law_58 : decode cL_law 58 = .ok (.iastore, 1) := by decide +kernel
theorem dL_law_59 : decode cL_law 59 = .ok (.aload 6, 2) := by decide +kernel
theorem dL_law_61 : decode cL_law 61 = .ok (.iconst 2, 1) := by decide +kernel
theorem dL_law_62 : decode cL_law 62 = .ok (.iconst 3, 1) := by decide +kernel
theorem dL_law_63 : decode cL_law 63 = .ok (.iastore, 1) := by decide +kernel
theorem dL_law_64 : decode cL_law 64 = .ok (.aload 6, 2) := by decide +kernel
theorem dL_law_66 : decode cL_law 66 = .ok (.iconst 3, 1) := by decide +kernel
theorem dL_law_67 : decode cL_law 67 = .ok (.bipush 24, 2) := by decide +kernel
theorem dL_law_69 : decode cL_law 69 = .ok (.iastore, 1) := by decide +kernel
theorem dL_law_70 : decode cL_law 70 = .ok (.aload 6, 2) := by decide +kernel
theorem dL_law_72 : decode cL_law 72 = .ok (.iconst 4, 1) := by decide +kernel
theorem dL_law_73 : decode cL_law 73 = .ok (.iconst 2, 1) := by decide +kernel
theorem dL_law_74 : decode cL_law 74 = .ok (.iastore, 1) := by decide +kernel
theorem dL_law_75 : decode cL_law 75 = .ok (.aload 6, 2) := by decide +kernel
theorem dL_law_77 : decode cL_law 77 = .ok (.iconst 5, 1) := by decide +kernel
theorem dL_law_78 : decode cL_law 78 = .ok (.bipush 10, 2) := by decide +kernel
theorem dL_law_80 : decode cL_law 80 = .ok (.iastore, 1) := by decide +kernel
theorem dL_law_81 : decode cL_law 81 = .ok (.aload 8, 2) := by decide +kernel
theorem dL_law_83 : decode cL_law 83 = .ok (.iconst 1, 1) := by decide +kernel
theorem dL_law_84 : decode cL_law 84 = .ok (.iconst (-1), 1) := by decide +kernel
theorem dL_law_85 : decode cL_law 85 = .ok (.iastore, 1) := by decide +kernel
theorem dL_law_86 : decode cL_law 86 = .ok (.aload 8, 2) := by decide +kernel
theorem dL_law_88 : decode cL_law 88 = .ok (.iconst 4, 1) := by decide +kernel
theorem dL_law_89 : decode cL_law 89 = .ok (.iconst (-1), 1) := by decide +kernel
theorem dL_law_90 : decode cL_law 90 = .ok (.iastore, 1) := by decide +kernel
theorem dL_law_91 : decode cL_law 91 = .ok (.aload_n 1, 1) := by decide +kernel
theorem dL_law_92 : decode cL_law 92 = .ok (.iconst 5, 1) := by decide +kernel
theorem dL_law_93 : decode cL_law 93 = .ok (.aload_n 2, 1) := by decide +kernel
theorem dL_law_94 : decode cL_law 94 = .ok (.aload_n 3, 1) := by decide +kernel
theorem dL_law_95 : decode cL_law 95 = .ok (.aload 4, 2) := by decide +kernel
theorem dL_law_97 : decode cL_law 97 = .ok (.aload 5, 2) := by decide +kernel
theorem dL_law_99 : decode cL_law 99 = .ok (.aload 6, 2) := by decide +kernel
theorem dL_law_101 : decode cL_law 101 = .ok (.aload 7, 2) := by decide +kernel
theorem dL_law_103 : decode cL_law 103 = .ok (.aload 8, 2) := by decide +kernel
theorem dL_law_105 : decode cL_law 105 = .ok (.invokestatic 150, 3) := by decide +kernel
theorem dL_law_108 : decode cL_law 108 = .ok (.ifCond .eq 18, 3) := by decide +kernel
theorem dL_law_111 : decode cL_law 111 = .ok (.aload_n 1, 1) := by decide +kernel
theorem dL_law_112 : decode cL_law 112 = .ok (.invokevirtual 91, 3) := by decide +kernel
theorem dL_law_115 : decode cL_law 115 = .ok (.ifCond .ne 11, 3) := by decide +kernel
theorem dL_law_118 : decode cL_law 118 = .ok (.aload_n 1, 1) := by decide +kernel
theorem dL_law_119 : decode cL_law 119 = .ok (.invokevirtual 98, 3) := by decide +kernel
theorem dL_law_122 : decode cL_law 122 = .ok (.iconst (-1), 1) := by decide +kernel
theorem dL_law_123 : decode cL_law 123 = .ok (.if_icmp .eq 5, 3) := by decide +kernel
theorem dL_law_126 : decode cL_law 126 = .ok (.iconst 0, 1) := by decide +kernel
theorem dL_law_127 : decode cL_law 127 = .ok (.ireturn, 1) := by decide +kernel
theorem dL_law_128 : decode cL_law 128 = .ok (.iconst 0, 1) := by decide +kernel
theorem dL_law_129 : decode cL_law 129 = .ok (.istore 9, 2) := by decide +kernel
theorem dL_law_131 : decode cL_law 131 = .ok (.iload 9, 2) := by decide +kernel
theorem dL_law_133 : decode cL_law 133 = .ok (.bipush 26, 2) := by decide +kernel
theorem dL_law_135 : decode cL_law 135 = .ok (.if_icmp .ge 175, 3) := by decide +kernel
theorem dL_law_138 : decode cL_law 138 = .ok (.aload_n 0, 1) := by decide +kernel
theorem dL_law_139 : decode cL_law 139 = .ok (.iconst 2, 1) := by decide +kernel
theorem dL_law_140 : decode cL_law 140 = .ok (.iload 9, 2) := by decide +kernel
theorem dL_law_142 : decode cL_law 142 = .ok (.imul, 1) := by decide +kernel
theorem dL_law_143 : decode cL_law 143 = .ok (.invokestatic 154, 3) := by decide +kernel
theorem dL_law_146 : decode cL_law 146 = .ok (.ldc 158, 2) := by decide +kernel
theorem dL_law_148 : decode cL_law 148 = .ok (.iand, 1) := by decide +kernel
theorem dL_law_149 : decode cL_law 149 = .ok (.istore 10, 2) := by decide +kernel
theorem dL_law_151 : decode cL_law 151 = .ok (.aload_n 0, 1) := by decide +kernel
theorem dL_law_152 : decode cL_law 152 = .ok (.iconst 2, 1) := by decide +kernel
theorem dL_law_153 : decode cL_law 153 = .ok (.iload 9, 2) := by decide +kernel
theorem dL_law_155 : decode cL_law 155 = .ok (.imul, 1) := by decide +kernel
theorem dL_law_156 : decode cL_law 156 = .ok (.iconst 1, 1) := by decide +kernel
theorem dL_law_157 : decode cL_law 157 = .ok (.iadd, 1) := by decide +kernel
theorem dL_law_158 : decode cL_law 158 = .ok (.invokestatic 154, 3) := by decide +kernel
theorem dL_law_161 : decode cL_law 161 = .ok (.ldc 158, 2) := by decide +kernel
theorem dL_law_163 : decode cL_law 163 = .ok (.iand, 1) := by decide +kernel
theorem dL_law_164 : decode cL_law 164 = .ok (.istore 11, 2) := by decide +kernel
theorem dL_law_166 : decode cL_law 166 = .ok (.iload 9, 2) := by decide +kernel
theorem dL_law_168 : decode cL_law 168 = .ok (.iconst 3, 1) := by decide +kernel
theorem dL_law_169 : decode cL_law 169 = .ok (.if_icmp .ge 7, 3) := by decide +kernel
theorem dL_law_172 : decode cL_law 172 = .ok (.iconst 4, 1) := by decide +kernel
theorem dL_law_173 : decode cL_law 173 = .ok (.goto 46, 3) := by decide +kernel
theorem dL_law_176 : decode cL_law 176 = .ok (.iload 9, 2) := by decide +kernel
theorem dL_law_178 : decode cL_law 178 = .ok (.iconst 3, 1) := by decide +kernel
theorem dL_law_179 : decode cL_law 179 = .ok (.if_icmp .ne 8, 3) := by decide +kernel
theorem dL_law_182 : decode cL_law 182 = .ok (.bipush 6, 2) := by decide +kernel
theorem dL_law_184 : decode cL_law 184 = .ok (.goto 35, 3) := by decide +kernel
theorem dL_law_187 : decode cL_law 187 = .ok (.iload 9, 2) := by decide +kernel
theorem dL_law_189 : decode cL_law 189 = .ok (.iconst 4, 1) := by decide +kernel
theorem dL_law_190 : decode cL_law 190 = .ok (.if_icmp .ne 8, 3) := by decide +kernel
theorem dL_law_193 : decode cL_law 193 = .ok (.bipush 8, 2) := by decide +kernel
theorem dL_law_195 : decode cL_law 195 = .ok (.goto 24, 3) := by decide +kernel
theorem dL_law_198 : decode cL_law 198 = .ok (.iload 9, 2) := by decide +kernel
theorem dL_law_200 : decode cL_law 200 = .ok (.iconst 5, 1) := by decide +kernel
theorem dL_law_201 : decode cL_law 201 = .ok (.if_icmp .ne 8, 3) := by decide +kernel
theorem dL_law_204 : decode cL_law 204 = .ok (.bipush 12, 2) := by decide +kernel
theorem dL_law_206 : decode cL_law 206 = .ok (.goto 13, 3) := by decide +kernel
theorem dL_law_209 : decode cL_law 209 = .ok (.iload 10, 2) := by decide +kernel
theorem dL_law_211 : decode cL_law 211 = .ok (.bipush 13, 2) := by decide +kernel
theorem dL_law_213 : decode cL_law 213 = .ok (.ishr, 1) := by decide +kernel
theorem dL_law_214 : decode cL_law 214 = .ok (.bipush 18, 2) := by decide +kernel
theorem dL_law_216 : decode cL_law 216 = .ok (.invokestatic 69, 3) := by decide +kernel
theorem dL_law_219 : decode cL_law 219 = .ok (.istore 12, 2) := by decide +kernel
theorem dL_law_221 : decode cL_law 221 = .ok (.aload_n 1, 1) := by decide +kernel
theorem dL_law_222 : decode cL_law 222 = .ok (.iload 12, 2) := by decide +kernel
theorem dL_law_224 : decode cL_law 224 = .ok (.iload 10, 2) := by decide +kernel
theorem dL_law_226 : decode cL_law 226 = .ok (.iload 11, 2) := by decide +kernel
theorem dL_law_228 : decode cL_law 228 = .ok (.aload_n 2, 1) := by decide +kernel
theorem dL_law_229 : decode cL_law 229 = .ok (.aload_n 3, 1) := by decide +kernel
theorem dL_law_230 : decode cL_law 230 = .ok (.aload 4, 2) := by decide +kernel
theorem dL_law_232 : decode cL_law 232 = .ok (.aload 5, 2) := by decide +kernel
theorem dL_law_234 : decode cL_law 234 = .ok (.aload 6, 2) := by decide +kernel
theorem dL_law_236 : decode cL_law 236 = .ok (.aload 7, 2) := by decide +kernel
theorem dL_law_238 : decode cL_law 238 = .ok (.aload 8, 2) := by decide +kernel
theorem dL_law_240 : decode cL_law 240 = .ok (.invokestatic 159, 3) := by decide +kernel
theorem dL_law_243 : decode cL_law 243 = .ok (.ifCond .eq 26, 3) := by decide +kernel
theorem dL_law_246 : decode cL_law 246 = .ok (.aload_n 1, 1) := by decide +kernel
theorem dL_law_247 : decode cL_law 247 = .ok (.iload 11, 2) := by decide +kernel
theorem dL_law_249 : decode cL_law 249 = .ok (.iconst 2, 1) := by decide +kernel
theorem dL_law_250 : decode cL_law 250 = .ok (.ishr, 1) := by decide +kernel
theorem dL_law_251 : decode cL_law 251 = .ok (.aload_n 2, 1) := by decide +kernel
theorem dL_law_252 : decode cL_law 252 = .ok (.aload_n 3, 1) := by decide +kernel
theorem dL_law_253 : decode cL_law 253 = .ok (.aload 4, 2) := by decide +kernel
theorem dL_law_255 : decode cL_law 255 = .ok (.aload 5, 2) := by decide +kernel
theorem dL_law_257 : decode cL_law 257 = .ok (.aload 6, 2) := by decide +kernel
theorem dL_law_259 : decode cL_law 259 = .ok (.aload 7, 2) := by decide +kernel
theorem dL_law_261 : decode cL_law 261 = .ok (.aload 8, 2) := by decide +kernel
theorem dL_law_263 : decode cL_law 263 = .ok (.invokestatic 150, 3) := by decide +kernel
theorem dL_law_266 : decode cL_law 266 = .ok (.ifCond .ne 5, 3) := by decide +kernel
theorem dL_law_269 : decode cL_law 269 = .ok (.iconst 0, 1) := by decide +kernel
theorem dL_law_270 : decode cL_law 270 = .ok (.ireturn, 1) := by decide +kernel
theorem dL_law_271 : decode cL_law 271 = .ok (.iload 9, 2) := by decide +kernel
theorem dL_law_273 : decode cL_law 273 = .ok (.iconst 4, 1) := by decide +kernel
theorem dL_law_274 : decode cL_law 274 = .ok (.irem, 1) := by decide +kernel
theorem dL_law_275 : decode cL_law 275 = .ok (.iconst 3, 1) := by decide +kernel
theorem dL_law_276 : decode cL_law 276 = .ok (.if_icmp .ne 28, 3) := by decide +kernel
theorem dL_law_279 : decode cL_law 279 = .ok (.aload_n 1, 1) := by decide +kernel
theorem dL_law_280 : decode cL_law 280 = .ok (.iload 11, 2) := by decide +kernel
theorem dL_law_282 : decode cL_law 282 = .ok (.iconst 3, 1) := by decide +kernel
theorem dL_law_283 : decode cL_law 283 = .ok (.ishr, 1) := by decide +kernel
theorem dL_law_284 : decode cL_law 284 = .ok (.aload_n 2, 1) := by decide +kernel
theorem dL_law_285 : decode cL_law 285 = .ok (.aload_n 3, 1) := by decide +kernel
theorem dL_law_286 : decode cL_law 286 = .ok (.aload 4, 2) := by decide +kernel
theorem dL_law_288 : decode cL_law 288 = .ok (.aload 5, 2) := by decide +kernel
theorem dL_law_290 : decode cL_law 290 = .ok (.aload 6, 2) := by decide +kernel
theorem dL_law_292 : decode cL_law 292 = .ok (.aload 7, 2) := by decide +kernel
theorem dL_law_294 : decode cL_law 294 = .ok (.aload 8, 2) := by decide +kernel
theorem dL_law_296 : decode cL_law 296 = .ok (.invokestatic 163, 3) := by decide +kernel
theorem dL_law_299 : decode cL_law 299 = .ok (.ifCond .ne 5, 3) := by decide +kernel
theorem dL_law_302 : decode cL_law 302 = .ok (.iconst 0, 1) := by decide +kernel
theorem dL_law_303 : decode cL_law 303 = .ok (.ireturn, 1) := by decide +kernel
theorem dL_law_304 : decode cL_law 304 = .ok (.iinc 9 1, 3) := by decide +kernel
theorem dL_law_307 : decode cL_law 307 = .ok (.goto (-176), 3) := by decide +kernel
theorem dL_law_310 : decode cL_law 310 = .ok (.aload_n 1, 1) := by decide +kernel
theorem dL_law_311 : decode cL_law 311 = .ok (.bipush 14, 2) := by decide +kernel
theorem dL_law_313 : decode cL_law 313 = .ok (.invokevirtual 63, 3) := by decide +kernel
theorem dL_law_316 : decode cL_law 316 = .ok (.ifCond .le 7, 3) := by decide +kernel
theorem dL_law_319 : decode cL_law 319 = .ok (.iconst 1, 1) := by decide +kernel
theorem dL_law_320 : decode cL_law 320 = .ok (.goto 4, 3) := by decide +kernel
theorem dL_law_323 : decode cL_law 323 = .ok (.iconst 0, 1) := by decide +kernel
theorem dL_law_324 : decode cL_law 324 = .ok (.ireturn, 1) := by decide +kernel
