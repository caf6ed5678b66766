theorem d_Law_law_425 : decode code 425 = .ok (.goto 1050, 3) := by decide +kernel
theorem d_Law_law_428 : decode code 428 = .ok (.aload_n 1, 1) := by decide +kernel
theorem d_Law_law_429 : decode code 429 = .ok (.aload_n 0, 1) := by decide +kernel
theorem d_Law_law_430 : decode code 430 = .ok (.iload 4, 2) := by decide +kernel
theorem d_Law_law_432 : decode code 432 = .ok (.iconst 1, 1) := by decide +kernel
theorem d_Law_law_433 : decode code 433 = .ok (.iadd, 1) := by decide +kernel
theorem d_Law_law_434 : decode code 434 = .ok (.iaload, 1) := by decide +kernel
theorem d_Law_law_435 : decode code 435 = .ok (.aload_n 0, 1) := by decide +kernel
theorem d_Law_law_436 : decode code 436 = .ok (.iload 4, 2) := by decide +kernel
theorem d_Law_law_438 : decode code 438 = .ok (.iconst 2, 1) := by decide +kernel
theorem d_Law_law_439 : decode code 439 = .ok (.iadd, 1) := by decide +kernel
theorem d_Law_law_440 : decode code 440 = .ok (.iaload, 1) := by decide +kernel
theorem d_Law_law_441 : decode code 441 = .ok (.i2l, 1) := by decide +kernel
theorem d_Law_law_442 : decode code 442 = .ok (.bipush 32, 2) := by decide +kernel
theorem d_Law_law_444 : decode code 444 = .ok (.lshl, 1) := by decide +kernel
theorem d_Law_law_445 : decode code 445 = .ok (.aload_n 0, 1) := by decide +kernel
theorem d_Law_law_446 : decode code 446 = .ok (.iload 4, 2) := by decide +kernel
theorem d_Law_law_448 : decode code 448 = .ok (.iconst 3, 1) := by decide +kernel
theorem d_Law_law_449 : decode code 449 = .ok (.iadd, 1) := by decide +kernel
theorem d_Law_law_450 : decode code 450 = .ok (.iaload, 1) := by decide +kernel
theorem d_Law_law_451 : decode code 451 = .ok (.i2l, 1) := by decide +kernel
theorem d_Law_law_452 : decode code 452 = .ok (.ldc2_w 74, 3) := by decide +kernel
theorem d_Law_law_455 : decode code 455 = .ok (.land, 1) := by decide +kernel
theorem d_Law_law_456 : decode code 456 = .ok (.lor, 1) := by decide +kernel
theorem d_Law_law_457 : decode code 457 = .ok (.aload_n 0, 1) := by decide +kernel
theorem d_Law_law_458 : decode code 458 = .ok (.iload 4, 2) := by decide +kernel
theorem d_Law_law_460 : decode code 460 = .ok (.iconst 4, 1) := by decide +kernel
theorem d_Law_law_461 : decode code 461 = .ok (.iadd, 1) := by decide +kernel
theorem d_Law_law_462 : decode code 462 = .ok (.iaload, 1) := by decide +kernel
theorem d_Law_law_463 : decode code 463 = .ok (.i2l, 1) := by decide +kernel
theorem d_Law_law_464 : decode code 464 = .ok (.bipush 32, 2) := by decide +kernel
theorem d_Law_law_466 : decode code 466 = .ok (.lshl, 1) := by decide +kernel
theorem d_Law_law_467 : decode code 467 = .ok (.aload_n 0, 1) := by decide +kernel
theorem d_Law_law_468 : decode code 468 = .ok (.iload 4, 2) := by decide +kernel
theorem d_Law_law_470 : decode code 470 = .ok (.iconst 5, 1) := by decide +kernel
theorem d_Law_law_471 : decode code 471 = .ok (.iadd, 1) := by decide +kernel
theorem d_Law_law_472 : decode code 472 = .ok (.iaload, 1) := by decide +kernel
theorem d_Law_law_473 : decode code 473 = .ok (.i2l, 1) := by decide +kernel
theorem d_Law_law_474 : decode code 474 = .ok (.ldc2_w 74, 3) := by decide +kernel
theorem d_Law_law_477 : decode code 477 = .ok (.land, 1) := by decide +kernel
theorem d_Law_law_478 : decode code 478 = .ok (.lor, 1) := by decide +kernel
theorem d_Law_law_479 : decode code 479 = .ok (.aload_n 3, 1) := by decide +kernel
theorem d_Law_law_480 : decode code 480 = .ok (.invokestatic 80, 3) := by decide +kernel
theorem d_Law_law_483 : decode code 483 = .ok (.istore 5, 2) := by decide +kernel
theorem d_Law_law_485 : decode code 485 = .ok (.aload_n 2, 1) := by decide +kernel
theorem d_Law_law_486 : decode code 486 = .ok (.aload_n 0, 1) := by decide +kernel
theorem d_Law_law_487 : decode code 487 = .ok (.iload 4, 2) := by decide +kernel
theorem d_Law_law_489 : decode code 489 = .ok (.iconst 1, 1) := by decide +kernel
theorem d_Law_law_490 : decode code 490 = .ok (.iadd, 1) := by decide +kernel
theorem d_Law_law_491 : decode code 491 = .ok (.iaload, 1) := by decide +kernel
theorem d_Law_law_492 : decode code 492 = .ok (.aload_n 0, 1) := by decide +kernel
theorem d_Law_law_493 : decode code 493 = .ok (.iload 4, 2) := by decide +kernel
theorem d_Law_law_495 : decode code 495 = .ok (.iconst 2, 1) := by decide +kernel
theorem d_Law_law_496 : decode code 496 = .ok (.iadd, 1) := by decide +kernel
theorem d_Law_law_497 : decode code 497 = .ok (.iaload, 1) := by decide +kernel
theorem d_Law_law_498 : decode code 498 = .ok (.i2l, 1) := by decide +kernel
theorem d_Law_law_499 : decode code 499 = .ok (.bipush 32, 2) := by decide +kernel
theorem d_Law_law_501 : decode code 501 = .ok (.lshl, 1) := by decide +kernel
theorem d_Law_law_502 : decode code 502 = .ok (.aload_n 0, 1) := by decide +kernel
theorem d_Law_law_503 : decode code 503 = .ok (.iload 4, 2) := by decide +kernel
theorem d_Law_law_505 : decode code 505 = .ok (.iconst 3, 1) := by decide +kernel
theorem d_Law_law_506 : decode code 506 = .ok (.iadd, 1) := by decide +kernel
theorem d_Law_law_507 : decode code 507 = .ok (.iaload, 1) := by decide +kernel
theorem d_Law_law_508 : decode code 508 = .ok (.i2l, 1) := by decide +kernel
theorem d_Law_law_509 : decode code 509 = .ok (.ldc2_w 74, 3) := by decide +kernel
theorem d_Law_law_512 : decode code 512 = .ok (.land, 1) := by decide +kernel
theorem d_Law_law_513 : decode code 513 = .ok (.lor, 1) := by decide +kernel
theorem d_Law_law_514 : decode code 514 = .ok (.aload_n 0, 1) := by decide +kernel
theorem d_Law_law_515 : decode code 515 = .ok (.iload 4, 2) := by decide +kernel
theorem d_Law_law_517 : decode code 517 = .ok (.iconst 4, 1) := by decide +kernel
theorem d_Law_law_518 : decode code 518 = .ok (.iadd, 1) := by decide +kernel
theorem d_Law_law_519 : decode code 519 = .ok (.iaload, 1) := by decide +kernel
theorem d_Law_law_520 : decode code 520 = .ok (.i2l, 1) := by decide +kernel
theorem d_Law_law_521 : decode code 521 = .ok (.bipush 32, 2) := by decide +kernel
theorem d_Law_law_523 : decode code 523 = .ok (.lshl, 1) := by decide +kernel
theorem d_Law_law_524 : decode code 524 = .ok (.aload_n 0, 1) := by decide +kernel
theorem d_Law_law_525 : decode code 525 = .ok (.iload 4, 2) := by decide +kernel
theorem d_Law_law_527 : decode code 527 = .ok (.iconst 5, 1) := by decide +kernel
theorem d_Law_law_528 : decode code 528 = .ok (.iadd, 1) := by decide +kernel
theorem d_Law_law_529 : decode code 529 = .ok (.iaload, 1) := by decide +kernel
theorem d_Law_law_530 : decode code 530 = .ok (.i2l, 1) := by decide +kernel
theorem d_Law_law_531 : decode code 531 = .ok (.ldc2_w 74, 3) := by decide +kernel
theorem d_Law_law_534 : decode code 534 = .ok (.land, 1) := by decide +kernel
theorem d_Law_law_535 : decode code 535 = .ok (.lor, 1) := by decide +kernel
theorem d_Law_law_536 : decode code 536 = .ok (.invokevirtual 83, 3) := by decide +kernel
theorem d_Law_law_539 : decode code 539 = .ok (.istore 6, 2) := by decide +kernel
theorem d_Law_law_541 : decode code 541 = .ok (.aload_n 2, 1) := by decide +kernel
theorem d_Law_law_542 : decode code 542 = .ok (.invokevirtual 70, 3) := by decide +kernel
theorem d_Law_law_545 : decode code 545 = .ok (.iload 5, 2) := by decide +kernel
theorem d_Law_law_547 : decode code 547 = .ok (.if_icmp .eq 5, 3) := by decide +kernel
theorem d_Law_law_550 : decode code 550 = .ok (.iconst 0, 1) := by decide +kernel
theorem d_Law_law_551 : decode code 551 = .ok (.ireturn, 1) := by decide +kernel
theorem d_Law_law_552 : decode code 552 = .ok (.iload 5, 2) := by decide +kernel
theorem d_Law_law_554 : decode code 554 = .ok (.ifCond .ne 22, 3) := by decide +kernel
theorem d_Law_law_557 : decode code 557 = .ok (.aload_n 3, 1) := by decide +kernel
theorem d_Law_law_558 : decode code 558 = .ok (.iconst 0, 1) := by decide +kernel
theorem d_Law_law_559 : decode code 559 = .ok (.laload, 1) := by decide +kernel
theorem d_Law_law_560 : decode code 560 = .ok (.iload 6, 2) := by decide +kernel
theorem d_Law_law_562 : decode code 562 = .ok (.ifCond .eq 7, 3) := by decide +kernel
theorem d_Law_law_565 : decode code 565 = .ok (.lconst 1, 1) := by decide +kernel
theorem d_Law_law_566 : decode code 566 = .ok (.goto 4, 3) := by decide +kernel
theorem d_Law_law_569 : decode code 569 = .ok (.lconst 0, 1) := by decide +kernel
theorem d_Law_law_570 : decode code 570 = .ok (.lcmp, 1) := by decide +kernel
theorem d_Law_law_571 : decode code 571 = .ok (.ifCond .eq 5, 3) := by decide +kernel
theorem d_Law_law_574 : decode code 574 = .ok (.iconst 0, 1) := by decide +kernel
theorem d_Law_law_575 : decode code 575 = .ok (.ireturn, 1) := by decide +kernel
theorem d_Law_law_576 : decode code 576 = .ok (.goto 899, 3) := by decide +kernel
theorem d_Law_law_579 : decode code 579 = .ok (.aload_n 1, 1) := by decide +kernel
theorem d_Law_law_580 : decode code 580 = .ok (.aload_n 0, 1) := by decide +kernel
theorem d_Law_law_581 : decode code 581 = .ok (.iload 4, 2) := by decide +kernel
theorem d_Law_law_583 : decode code 583 = .ok (.iconst 1, 1) := by decide +kernel
theorem d_Law_law_584 : decode code 584 = .ok (.iadd, 1) := by decide +kernel
theorem d_Law_law_585 : decode code 585 = .ok (.iaload, 1) := by decide +kernel
theorem d_Law_law_586 : decode code 586 = .ok (.aload_n 0, 1) := by decide +kernel
theorem d_Law_law_587 : decode code 587 = .ok (.iload 4, 2) := by decide +kernel
theorem d_Law_law_589 : decode code 589 = .ok (.iconst 2, 1) := by decide +kernel
theorem d_Law_law_590 : decode code 590 = .ok (.iadd, 1) := by decide +kernel
theorem d_Law_law_591 : decode code 591 = .ok (.iaload, 1) := by decide +kernel
theorem d_Law_law_592 : decode code 592 = .ok (.i2l, 1) := by decide +kernel
theorem d_Law_law_593 : decode code 593 = .ok (.bipush 32, 2) := by decide +kernel
theorem d_Law_law_595 : decode code 595 = .ok (.lshl, 1) := by decide +kernel
theorem d_Law_law_596 : decode code 596 = .ok (.aload_n 0, 1) := by decide +kernel
theorem d_Law_law_597 : decode code 597 = .ok (.iload 4, 2) := by decide +kernel
theorem d_Law_law_599 : decode code 599 = .ok (.iconst 3, 1) := by decide +kernel
theorem d_Law_law_600 : decode code 600 = .ok (.iadd, 1) := by decide +kernel
theorem d_Law_law_601 : decode code 601 = .ok (.iaload, 1) := by decide +kernel
theorem d_Law_law_602 : decode code 602 = .ok (.i2l, 1) := by decide +kernel
theorem d_Law_law_603 : decode code 603 = .ok (.ldc2_w 74, 3) := by decide +kernel
theorem d_Law_law_606 : decode code 606 = .ok (.land, 1) := by decide +kernel
theorem d_Law_law_607 : decode code 607 = .ok (.lor, 1) := by decide +kernel
theorem d_Law_law_608 : decode code 608 = .ok (.aload_n 0, 1) := by decide +kernel
theorem d_Law_law_609 : decode code 609 = .ok (.iload 4, 2) := by decide +kernel
theorem d_Law_law_611 : decode code 611 = .ok (.iconst 4, 1) := by decide +kernel
theorem d_Law_law_612 : decode code 612 = .ok (.iadd, 1) := by decide +kernel
theorem d_Law_law_613 : decode code 613 = .ok (.iaload, 1) := by decide +kernel
theorem d_Law_law_614 : decode code 614 = .ok (.i2l, 1) := by decide +kernel
theorem d_Law_law_615 : decode code 615 = .ok (.bipush 32, 2) := by decide +kernel
theorem d_Law_law_617 : decode code 617 = .ok (.lshl, 1) := by decide +kernel
theorem d_Law_law_618 : decode code 618 = .ok (.aload_n 0, 1) := by decide +kernel
theorem d_Law_law_619 : decode code 619 = .ok (.iload 4, 2) := by decide +kernel
theorem d_Law_law_621 : decode code 621 = .ok (.iconst 5, 1) := by decide +kernel
theorem d_Law_law_622 : decode code 622 = .ok (.iadd, 1) := by decide +kernel
theorem d_Law_law_623 : decode code 623 = .ok (.iaload, 1) := by decide +kernel
theorem d_Law_law_624 : decode code 624 = .ok (.i2l, 1) := by decide +kernel
theorem d_Law_law_625 : decode code 625 = .ok (.ldc2_w 74, 3) := by decide +kernel
theorem d_Law_law_628 : decode code 628 = .ok (.land, 1) := by decide +kernel
theorem d_Law_law_629 : decode code 629 = .ok (.lor, 1) := by decide +kernel
theorem d_Law_law_630 : decode code 630 = .ok (.aload_n 0, 1) := by decide +kernel
theorem d_Law_law_631 : decode code 631 = .ok (.iload 4, 2) := by decide +kernel
theorem d_Law_law_633 : decode code 633 = .ok (.bipush 6, 2) := by decide +kernel
theorem d_Law_law_635 : decode code 635 = .ok (.iadd, 1) := by decide +kernel
theorem d_Law_law_636 : decode code 636 = .ok (.iaload, 1) := by decide +kernel
theorem d_Law_law_637 : decode code 637 = .ok (.aload_n 3, 1) := by decide +kernel
theorem d_Law_law_638 : decode code 638 = .ok (.invokestatic 84, 3) := by decide +kernel
theorem d_Law_law_641 : decode code 641 = .ok (.istore 5, 2) := by decide +kernel
theorem d_Law_law_643 : decode code 643 = .ok (.aload_n 2, 1) := by decide +kernel
theorem d_Law_law_644 : decode code 644 = .ok (.aload_n 0, 1) := by decide +kernel
theorem d_Law_law_645 : decode code 645 = .ok (.iload 4, 2) := by decide +kernel
theorem d_Law_law_647 : decode code 647 = .ok (.iconst 1, 1) := by decide +kernel
theorem d_Law_law_648 : decode code 648 = .ok (.iadd, 1) := by decide +kernel
theorem d_Law_law_649 : decode code 649 = .ok (.iaload, 1) := by decide +kernel
theorem d_Law_law_650 : decode code 650 = .ok (.aload_n 0, 1) := by decide +kernel
theorem d_Law_law_651 : decode code 651 = .ok (.iload 4, 2) := by decide +kernel
theorem d_Law_law_653 : decode code 653 = .ok (.iconst 2, 1) := by decide +kernel
theorem d_Law_law_654 : decode code 654 = .ok (.iadd, 1) := by decide +kernel
theorem d_Law_law_655 : decode code 655 = .ok (.iaload, 1) := by decide +kernel
theorem d_Law_law_656 : decode code 656 = .ok (.i2l, 1) := by decide +kernel
theorem d_Law_law_657 : decode code 657 = .ok (.bipush 32, 2) := by decide +kernel
theorem d_Law_law_659 : decode code 659 = .ok (.lshl, 1) := by decide +kernel
theorem d_Law_law_660 : decode code 660 = .ok (.aload_n 0, 1) := by decide +kernel
theorem d_Law_law_661 : decode code 661 = .ok (.iload 4, 2) := by decide +kernel
theorem d_Law_law_663 : decode code 663 = .ok (.iconst 3, 1) := by decide +kernel
theorem d_Law_law_664 : decode code 664 = .ok (.iadd, 1) := by decide +kernel
theorem d_Law_law_665 : decode code 665 = .ok (.iaload, 1) := by decide +kernel
theorem d_Law_law_666 : decode code 666 = .ok (.i2l, 1) := by decide +kernel
theorem d_Law_law_667 : decode code 667 = .ok (.ldc2_w 74, 3) := by decide +kernel
theorem d_Law_law_670 : decode code 670 = .ok (.land, 1) := by decide +kernel
theorem d_Law_law_671 : decode code 671 = .ok (.lor, 1) := by decide +kernel
theorem d_Law_law_672 : decode code 672 = .ok (.aload_n 0, 1) := by decide +kernel
theorem d_Law_law_673 : decode code 673 = .ok (.iload 4, 2) := by decide +kernel
theorem d_Law_law_675 : decode code 675 = .ok (.iconst 4, 1) := by decide +kernel
theorem d_Law_law_676 : decode code 676 = .ok (.iadd, 1) := by decide +kernel
theorem d_Law_law_677 : decode code 677 = .ok (.iaload, 1) := by decide +kernel
theorem d_Law_law_678 : decode code 678 = .ok (.i2l, 1) := by decide +kernel
theorem d_Law_law_679 : decode code 679 = .ok (.bipush 32, 2) := by decide +kernel
theorem d_Law_law_681 : decode code 681 = .ok (.lshl, 1) := by decide +kernel
theorem d_Law_law_682 : decode code 682 = .ok (.aload_n 0, 1) := by decide +kernel
theorem d_Law_law_683 : decode code 683 = .ok (.iload 4, 2) := by decide +kernel
theorem d_Law_law_685 : decode code 685 = .ok (.iconst 5, 1) := by decide +kernel
theorem d_Law_law_686 : decode code 686 = .ok (.iadd, 1) := by decide +kernel
theorem d_Law_law_687 : decode code 687 = .ok (.iaload, 1) := by decide +kernel
theorem d_Law_law_688 : decode code 688 = .ok (.i2l, 1) := by decide +kernel
theorem d_Law_law_689 : decode code 689 = .ok (.ldc2_w 74, 3) := by decide +kernel
theorem d_Law_law_692 : decode code 692 = .ok (.land, 1) := by decide +kernel
theorem d_Law_law_693 : decode code 693 = .ok (.lor, 1) := by decide +kernel
theorem d_Law_law_694 : decode code 694 = .ok (.aload_n 0, 1) := by decide +kernel
theorem d_Law_law_695 : decode code 695 = .ok (.iload 4, 2) := by decide +kernel
theorem d_Law_law_697 : decode code 697 = .ok (.bipush 6, 2) := by decide +kernel
theorem d_Law_law_699 : decode code 699 = .ok (.iadd, 1) := by decide +kernel
theorem d_Law_law_700 : decode code 700 = .ok (.iaload, 1) := by decide +kernel
theorem d_Law_law_701 : decode code 701 = .ok (.invokevirtual 87, 3) := by decide +kernel
theorem d_Law_law_704 : decode code 704 = .ok (.istore 6, 2) := by decide +kernel
theorem d_Law_law_706 : decode code 706 = .ok (.aload_n 2, 1) := by decide +kernel
theorem d_Law_law_707 : decode code 707 = .ok (.invokevirtual 70, 3) := by decide +kernel
theorem d_Law_law_710 : decode code 710 = .ok (.iload 5, 2) := by decide +kernel
theorem d_Law_law_712 : decode code 712 = .ok (.if_icmp .eq 5, 3) := by decide +kernel
theorem d_Law_law_715 : decode code 715 = .ok (.iconst 0, 1) := by decide +kernel
theorem d_Law_law_716 : decode code 716 = .ok (.ireturn, 1) := by decide +kernel
theorem d_Law_law_717 : decode code 717 = .ok (.iload 5, 2) := by decide +kernel
theorem d_Law_law_719 : decode code 719 = .ok (.ifCond .ne 15, 3) := by decide +kernel
theorem d_Law_law_722 : decode code 722 = .ok (.aload_n 3, 1) := by decide +kernel
theorem d_Law_law_723 : decode code 723 = .ok (.iconst 0, 1) := by decide +kernel
theorem d_Law_law_724 : decode code 724 = .ok (.laload, 1) := by decide +kernel
theorem d_Law_law_725 : decode code 725 = .ok (.iload 6, 2) := by decide +kernel
theorem d_Law_law_727 : decode code 727 = .ok (.i2l, 1) := by decide +kernel
theorem d_Law_law_728 : decode code 728 = .ok (.lcmp, 1) := by decide +kernel
theorem d_Law_law_729 : decode code 729 = .ok (.ifCond .eq 5, 3) := by decide +kernel
theorem d_Law_law_732 : decode code 732 = .ok (.iconst 0, 1) := by decide +kernel
theorem d_Law_law_733 : decode code 733 = .ok (.ireturn, 1) := by decide +kernel
theorem d_Law_law_734 : decode code 734 = .ok (.goto 741, 3) := by decide +kernel
theorem d_Law_law_737 : decode code 737 = .ok (.aload_n 1, 1) := by decide +kernel
theorem d_Law_law_738 : decode code 738 = .ok (.aload_n 0, 1) := by decide +kernel
theorem d_Law_law_739 : decode code 739 = .ok (.iload 4, 2) := by decide +kernel
theorem d_Law_law_741 : decode code 741 = .ok (.iconst 1, 1) := by decide +kernel
theorem d_Law_law_742 : decode code 742 = .ok (.iadd, 1) := by decide +kernel
theorem d_Law_law_743 : decode code 743 = .ok (.iaload, 1) := by decide +kernel
theorem d_Law_law_744 : decode code 744 = .ok (.aload_n 0, 1) := by decide +kernel
theorem d_Law_law_745 : decode code 745 = .ok (.iload 4, 2) := by decide +kernel
theorem d_Law_law_747 : decode code 747 = .ok (.iconst 2, 1) := by decide +kernel
theorem d_Law_law_748 : decode code 748 = .ok (.iadd, 1) := by decide +kernel
theorem d_Law_law_749 : decode code 749 = .ok (.iaload, 1) := by decide +kernel
theorem d_Law_law_750 : decode code 750 = .ok (.i2l, 1) := by decide +kernel
theorem d_Law_law_751 : decode code 751 = .ok (.bipush 32, 2) := by decide +kernel
theorem d_Law_law_753 : decode code 753 = .ok (.lshl, 1) := by decide +kernel
theorem d_Law_law_754 : decode code 754 = .ok (.aload_n 0, 1) := by decide +kernel
theorem d_Law_law_755 : decode code 755 = .ok (.iload 4, 2) := by decide +kernel
theorem d_Law_law_757 : decode code 757 = .ok (.iconst 3, 1) := by decide +kernel
theorem d_Law_law_758 : decode code 758 = .ok (.iadd, 1) := by decide +kernel
theorem d_Law_law_759 : decode code 759 = .ok (.iaload, 1) := by decide +kernel
theorem d_Law_law_760 : decode code 760 = .ok (.i2l, 1) := by decide +kernel
