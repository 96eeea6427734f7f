theorem dL_isDone_427 : decode cL_isDone 427 = .ok (.iload 16, 2) := by decide +kernel
theorem dL_isDone_429 : decode cL_isDone 429 = .ok (.iload 17, 2) := by decide +kernel
theorem dL_isDone_431 : decode cL_isDone 431 = .ok (.iload 19, 2) := by decide +kernel
theorem dL_isDone_433 : decode cL_isDone 433 = .ok (.invokestatic 71, 3) := by decide +kernel
theorem dL_isDone_436 : decode cL_isDone 436 = .ok (.istore 25, 2) := by decide +kernel
theorem dL_isDone_438 : decode cL_isDone 438 = .ok (.aload 11, 2) := by decide +kernel
theorem dL_isDone_440 : decode cL_isDone 440 = .ok (.iconst 3, 1) := by decide +kernel
theorem dL_isDone_441 : decode cL_isDone 441 = .ok (.iload 16, 2) := by decide +kernel
theorem dL_isDone_443 : decode cL_isDone 443 = .ok (.iadd, 1) := by decide +kernel
theorem dL_isDone_444 : decode cL_isDone 444 = .ok (.iload 22, 2) := by decide +kernel
theorem dL_isDone_446 : decode cL_isDone 446 = .ok (.iastore, 1) := by decide +kernel
theorem dL_isDone_447 : decode cL_isDone 447 = .ok (.aload_n 3, 1) := by decide +kernel
theorem dL_isDone_448 : decode cL_isDone 448 = .ok (.iload 25, 2) := by decide +kernel
theorem dL_isDone_450 : decode cL_isDone 450 = .ok (.iload 23, 2) := by decide +kernel
theorem dL_isDone_452 : decode cL_isDone 452 = .ok (.ifCond .ge 7, 3) := by decide +kernel
theorem dL_isDone_455 : decode cL_isDone 455 = .ok (.lconst 0, 1) := by decide +kernel
theorem dL_isDone_456 : decode cL_isDone 456 = .ok (.goto 12, 3) := by decide +kernel
theorem dL_isDone_459 : decode cL_isDone 459 = .ok (.iload 22, 2) := by decide +kernel
theorem dL_isDone_461 : decode cL_isDone 461 = .ok (.i2l, 1) := by decide +kernel
theorem dL_isDone_462 : decode cL_isDone 462 = .ok (.bipush 6, 2) := by decide +kernel
theorem dL_isDone_464 : decode cL_isDone 464 = .ok (.iload 16, 2) := by decide +kernel
theorem dL_isDone_466 : decode cL_isDone 466 = .ok (.imul, 1) := by decide +kernel
theorem dL_isDone_467 : decode cL_isDone 467 = .ok (.lshl, 1) := by decide +kernel
theorem dL_isDone_468 : decode cL_isDone 468 = .ok (.lastore, 1) := by decide +kernel
theorem dL_isDone_469 : decode cL_isDone 469 = .ok (.aload 4, 2) := by decide +kernel
theorem dL_isDone_471 : decode cL_isDone 471 = .ok (.iload 25, 2) := by decide +kernel
theorem dL_isDone_473 : decode cL_isDone 473 = .ok (.aload 4, 2) := by decide +kernel
theorem dL_isDone_475 : decode cL_isDone 475 = .ok (.iload 25, 2) := by decide +kernel
theorem dL_isDone_477 : decode cL_isDone 477 = .ok (.laload, 1) := by decide +kernel
theorem dL_isDone_478 : decode cL_isDone 478 = .ok (.iload 22, 2) := by decide +kernel
theorem dL_isDone_480 : decode cL_isDone 480 = .ok (.i2l, 1) := by decide +kernel
theorem dL_isDone_481 : decode cL_isDone 481 = .ok (.bipush 6, 2) := by decide +kernel
theorem dL_isDone_483 : decode cL_isDone 483 = .ok (.iload 16, 2) := by decide +kernel
theorem dL_isDone_485 : decode cL_isDone 485 = .ok (.imul, 1) := by decide +kernel
theorem dL_isDone_486 : decode cL_isDone 486 = .ok (.lshl, 1) := by decide +kernel
theorem dL_isDone_487 : decode cL_isDone 487 = .ok (.invokestatic 103, 3) := by decide +kernel
theorem dL_isDone_490 : decode cL_isDone 490 = .ok (.lastore, 1) := by decide +kernel
theorem dL_isDone_491 : decode cL_isDone 491 = .ok (.aload_n 0, 1) := by decide +kernel
theorem dL_isDone_492 : decode cL_isDone 492 = .ok (.iconst 1, 1) := by decide +kernel
theorem dL_isDone_493 : decode cL_isDone 493 = .ok (.iload 16, 2) := by decide +kernel
theorem dL_isDone_495 : decode cL_isDone 495 = .ok (.iload 17, 2) := by decide +kernel
theorem dL_isDone_497 : decode cL_isDone 497 = .ok (.iload 19, 2) := by decide +kernel
theorem dL_isDone_499 : decode cL_isDone 499 = .ok (.iload 23, 2) := by decide +kernel
theorem dL_isDone_501 : decode cL_isDone 501 = .ok (.invokestatic 115, 3) := by decide +kernel
theorem dL_isDone_504 : decode cL_isDone 504 = .ok (.iload 24, 2) := by decide +kernel
theorem dL_isDone_506 : decode cL_isDone 506 = .ok (.if_icmp .ne 7, 3) := by decide +kernel
theorem dL_isDone_509 : decode cL_isDone 509 = .ok (.iconst 1, 1) := by decide +kernel
theorem dL_isDone_510 : decode cL_isDone 510 = .ok (.goto 4, 3) := by decide +kernel
theorem dL_isDone_513 : decode cL_isDone 513 = .ok (.iconst 0, 1) := by decide +kernel
theorem dL_isDone_514 : decode cL_isDone 514 = .ok (.ireturn, 1) := by decide +kernel
theorem dL_isDone_515 : decode cL_isDone 515 = .ok (.iload 12, 2) := by decide +kernel
theorem dL_isDone_517 : decode cL_isDone 517 = .ok (.bipush 20, 2) := by decide +kernel
theorem dL_isDone_519 : decode cL_isDone 519 = .ok (.if_icmp .ge 227, 3) := by decide +kernel
theorem dL_isDone_522 : decode cL_isDone 522 = .ok (.iload 18, 2) := by decide +kernel
theorem dL_isDone_524 : decode cL_isDone 524 = .ok (.ifCond .eq 43, 3) := by decide +kernel
theorem dL_isDone_527 : decode cL_isDone 527 = .ok (.aload 7, 2) := by decide +kernel
theorem dL_isDone_529 : decode cL_isDone 529 = .ok (.iconst 4, 1) := by decide +kernel
theorem dL_isDone_530 : decode cL_isDone 530 = .ok (.iload 17, 2) := by decide +kernel
theorem dL_isDone_532 : decode cL_isDone 532 = .ok (.imul, 1) := by decide +kernel
theorem dL_isDone_533 : decode cL_isDone 533 = .ok (.iaload, 1) := by decide +kernel
theorem dL_isDone_534 : decode cL_isDone 534 = .ok (.iload 16, 2) := by decide +kernel
theorem dL_isDone_536 : decode cL_isDone 536 = .ok (.iconst 2, 1) := by decide +kernel
theorem dL_isDone_537 : decode cL_isDone 537 = .ok (.idiv, 1) := by decide +kernel
theorem dL_isDone_538 : decode cL_isDone 538 = .ok (.if_icmp .ne 29, 3) := by decide +kernel
theorem dL_isDone_541 : decode cL_isDone 541 = .ok (.aload_n 3, 1) := by decide +kernel
theorem dL_isDone_542 : decode cL_isDone 542 = .ok (.aload 6, 2) := by decide +kernel
theorem dL_isDone_544 : decode cL_isDone 544 = .ok (.aload 8, 2) := by decide +kernel
theorem dL_isDone_546 : decode cL_isDone 546 = .ok (.aload 9, 2) := by decide +kernel
theorem dL_isDone_548 : decode cL_isDone 548 = .ok (.aload 10, 2) := by decide +kernel
theorem dL_isDone_550 : decode cL_isDone 550 = .ok (.aload 11, 2) := by decide +kernel
theorem dL_isDone_552 : decode cL_isDone 552 = .ok (.iload 16, 2) := by decide +kernel
theorem dL_isDone_554 : decode cL_isDone 554 = .ok (.iload 17, 2) := by decide +kernel
theorem dL_isDone_556 : decode cL_isDone 556 = .ok (.invokestatic 90, 3) := by decide +kernel
theorem dL_isDone_559 : decode cL_isDone 559 = .ok (.iconst 1, 1) := by decide +kernel
theorem dL_isDone_560 : decode cL_isDone 560 = .ok (.if_icmp .ne 7, 3) := by decide +kernel
theorem dL_isDone_563 : decode cL_isDone 563 = .ok (.iconst 1, 1) := by decide +kernel
theorem dL_isDone_564 : decode cL_isDone 564 = .ok (.goto 4, 3) := by decide +kernel
theorem dL_isDone_567 : decode cL_isDone 567 = .ok (.iconst 0, 1) := by decide +kernel
theorem dL_isDone_568 : decode cL_isDone 568 = .ok (.istore 19, 2) := by decide +kernel
theorem dL_isDone_570 : decode cL_isDone 570 = .ok (.iload 19, 2) := by decide +kernel
theorem dL_isDone_572 : decode cL_isDone 572 = .ok (.ifCond .eq 30, 3) := by decide +kernel
theorem dL_isDone_575 : decode cL_isDone 575 = .ok (.aload 11, 2) := by decide +kernel
theorem dL_isDone_577 : decode cL_isDone 577 = .ok (.iconst 2, 1) := by decide +kernel
theorem dL_isDone_578 : decode cL_isDone 578 = .ok (.iaload, 1) := by decide +kernel
theorem dL_isDone_579 : decode cL_isDone 579 = .ok (.bipush 10, 2) := by decide +kernel
theorem dL_isDone_581 : decode cL_isDone 581 = .ok (.if_icmp .ne 21, 3) := by decide +kernel
theorem dL_isDone_584 : decode cL_isDone 584 = .ok (.aload_n 0, 1) := by decide +kernel
theorem dL_isDone_585 : decode cL_isDone 585 = .ok (.iload 16, 2) := by decide +kernel
theorem dL_isDone_587 : decode cL_isDone 587 = .ok (.iload 17, 2) := by decide +kernel
theorem dL_isDone_589 : decode cL_isDone 589 = .ok (.invokevirtual 37, 3) := by decide +kernel
theorem dL_isDone_592 : decode cL_isDone 592 = .ok (.iconst 1, 1) := by decide +kernel
theorem dL_isDone_593 : decode cL_isDone 593 = .ok (.if_icmp .ne 7, 3) := by decide +kernel
theorem dL_isDone_596 : decode cL_isDone 596 = .ok (.iconst 1, 1) := by decide +kernel
theorem dL_isDone_597 : decode cL_isDone 597 = .ok (.goto 4, 3) := by decide +kernel
theorem dL_isDone_600 : decode cL_isDone 600 = .ok (.iconst 0, 1) := by decide +kernel
theorem dL_isDone_601 : decode cL_isDone 601 = .ok (.ireturn, 1) := by decide +kernel
theorem dL_isDone_602 : decode cL_isDone 602 = .ok (.iload 18, 2) := by decide +kernel
theorem dL_isDone_604 : decode cL_isDone 604 = .ok (.ifCond .ne 9, 3) := by decide +kernel
theorem dL_isDone_607 : decode cL_isDone 607 = .ok (.sipush (-300), 3) := by decide +kernel
theorem dL_isDone_610 : decode cL_isDone 610 = .ok (.goto 21, 3) := by decide +kernel
theorem dL_isDone_613 : decode cL_isDone 613 = .ok (.iload 19, 2) := by decide +kernel
theorem dL_isDone_615 : decode cL_isDone 615 = .ok (.ifCond .eq 14, 3) := by decide +kernel
theorem dL_isDone_618 : decode cL_isDone 618 = .ok (.aload_n 3, 1) := by decide +kernel
theorem dL_isDone_619 : decode cL_isDone 619 = .ok (.iload 16, 2) := by decide +kernel
theorem dL_isDone_621 : decode cL_isDone 621 = .ok (.iload 17, 2) := by decide +kernel
theorem dL_isDone_623 : decode cL_isDone 623 = .ok (.invokestatic 86, 3) := by decide +kernel
theorem dL_isDone_626 : decode cL_isDone 626 = .ok (.goto 5, 3) := by decide +kernel
theorem dL_isDone_629 : decode cL_isDone 629 = .ok (.bipush (-100), 2) := by decide +kernel
theorem dL_isDone_631 : decode cL_isDone 631 = .ok (.istore 20, 2) := by decide +kernel
theorem dL_isDone_633 : decode cL_isDone 633 = .ok (.iload 19, 2) := by decide +kernel
theorem dL_isDone_635 : decode cL_isDone 635 = .ok (.ifCond .eq 89, 3) := by decide +kernel
theorem dL_isDone_638 : decode cL_isDone 638 = .ok (.iconst 0, 1) := by decide +kernel
theorem dL_isDone_639 : decode cL_isDone 639 = .ok (.istore 21, 2) := by decide +kernel
theorem dL_isDone_641 : decode cL_isDone 641 = .ok (.iload 21, 2) := by decide +kernel
theorem dL_isDone_643 : decode cL_isDone 643 = .ok (.iconst 4, 1) := by decide +kernel
theorem dL_isDone_644 : decode cL_isDone 644 = .ok (.if_icmp .ge 33, 3) := by decide +kernel
theorem dL_isDone_647 : decode cL_isDone 647 = .ok (.aload 8, 2) := by decide +kernel
theorem dL_isDone_649 : decode cL_isDone 649 = .ok (.iconst 4, 1) := by decide +kernel
theorem dL_isDone_650 : decode cL_isDone 650 = .ok (.aload 11, 2) := by decide +kernel
theorem dL_isDone_652 : decode cL_isDone 652 = .ok (.iconst 2, 1) := by decide +kernel
theorem dL_isDone_653 : decode cL_isDone 653 = .ok (.iaload, 1) := by decide +kernel
theorem dL_isDone_654 : decode cL_isDone 654 = .ok (.imul, 1) := by decide +kernel
theorem dL_isDone_655 : decode cL_isDone 655 = .ok (.iload 21, 2) := by decide +kernel
theorem dL_isDone_657 : decode cL_isDone 657 = .ok (.iadd, 1) := by decide +kernel
theorem dL_isDone_658 : decode cL_isDone 658 = .ok (.aload 4, 2) := by decide +kernel
theorem dL_isDone_660 : decode cL_isDone 660 = .ok (.iload 16, 2) := by decide +kernel
theorem dL_isDone_662 : decode cL_isDone 662 = .ok (.iload 17, 2) := by decide +kernel
theorem dL_isDone_664 : decode cL_isDone 664 = .ok (.iload 21, 2) := by decide +kernel
theorem dL_isDone_666 : decode cL_isDone 666 = .ok (.invokestatic 71, 3) := by decide +kernel
theorem dL_isDone_669 : decode cL_isDone 669 = .ok (.laload, 1) := by decide +kernel
theorem dL_isDone_670 : decode cL_isDone 670 = .ok (.lastore, 1) := by decide +kernel
theorem dL_isDone_671 : decode cL_isDone 671 = .ok (.iinc 21 1, 3) := by decide +kernel
theorem dL_isDone_674 : decode cL_isDone 674 = .ok (.goto (-33), 3) := by decide +kernel
theorem dL_isDone_677 : decode cL_isDone 677 = .ok (.aload 10, 2) := by decide +kernel
theorem dL_isDone_679 : decode cL_isDone 679 = .ok (.aload 11, 2) := by decide +kernel
theorem dL_isDone_681 : decode cL_isDone 681 = .ok (.iconst 2, 1) := by decide +kernel
theorem dL_isDone_682 : decode cL_isDone 682 = .ok (.iaload, 1) := by decide +kernel
theorem dL_isDone_683 : decode cL_isDone 683 = .ok (.iload 17, 2) := by decide +kernel
theorem dL_isDone_685 : decode cL_isDone 685 = .ok (.iastore, 1) := by decide +kernel
theorem dL_isDone_686 : decode cL_isDone 686 = .ok (.aload 9, 2) := by decide +kernel
theorem dL_isDone_688 : decode cL_isDone 688 = .ok (.bipush 6, 2) := by decide +kernel
theorem dL_isDone_690 : decode cL_isDone 690 = .ok (.aload 11, 2) := by decide +kernel
theorem dL_isDone_692 : decode cL_isDone 692 = .ok (.iconst 2, 1) := by decide +kernel
theorem dL_isDone_693 : decode cL_isDone 693 = .ok (.iaload, 1) := by decide +kernel
theorem dL_isDone_694 : decode cL_isDone 694 = .ok (.imul, 1) := by decide +kernel
theorem dL_isDone_695 : decode cL_isDone 695 = .ok (.iload 16, 2) := by decide +kernel
theorem dL_isDone_697 : decode cL_isDone 697 = .ok (.iadd, 1) := by decide +kernel
theorem dL_isDone_698 : decode cL_isDone 698 = .ok (.aload 11, 2) := by decide +kernel
theorem dL_isDone_700 : decode cL_isDone 700 = .ok (.iconst 1, 1) := by decide +kernel
theorem dL_isDone_701 : decode cL_isDone 701 = .ok (.iaload, 1) := by decide +kernel
theorem dL_isDone_702 : decode cL_isDone 702 = .ok (.iconst 1, 1) := by decide +kernel
theorem dL_isDone_703 : decode cL_isDone 703 = .ok (.iadd, 1) := by decide +kernel
theorem dL_isDone_704 : decode cL_isDone 704 = .ok (.iastore, 1) := by decide +kernel
theorem dL_isDone_705 : decode cL_isDone 705 = .ok (.aload 11, 2) := by decide +kernel
theorem dL_isDone_707 : decode cL_isDone 707 = .ok (.iconst 2, 1) := by decide +kernel
theorem dL_isDone_708 : decode cL_isDone 708 = .ok (.dup2, 1) := by decide +kernel
theorem dL_isDone_709 : decode cL_isDone 709 = .ok (.iaload, 1) := by decide +kernel
theorem dL_isDone_710 : decode cL_isDone 710 = .ok (.iconst 1, 1) := by decide +kernel
theorem dL_isDone_711 : decode cL_isDone 711 = .ok (.iadd, 1) := by decide +kernel
theorem dL_isDone_712 : decode cL_isDone 712 = .ok (.iastore, 1) := by decide +kernel
theorem dL_isDone_713 : decode cL_isDone 713 = .ok (.aload 11, 2) := by decide +kernel
theorem dL_isDone_715 : decode cL_isDone 715 = .ok (.iconst 3, 1) := by decide +kernel
theorem dL_isDone_716 : decode cL_isDone 716 = .ok (.iload 16, 2) := by decide +kernel
theorem dL_isDone_718 : decode cL_isDone 718 = .ok (.iadd, 1) := by decide +kernel
theorem dL_isDone_719 : decode cL_isDone 719 = .ok (.dup2, 1) := by decide +kernel
theorem dL_isDone_720 : decode cL_isDone 720 = .ok (.iaload, 1) := by decide +kernel
theorem dL_isDone_721 : decode cL_isDone 721 = .ok (.iconst 1, 1) := by decide +kernel
theorem dL_isDone_722 : decode cL_isDone 722 = .ok (.iadd, 1) := by decide +kernel
theorem dL_isDone_723 : decode cL_isDone 723 = .ok (.iastore, 1) := by decide +kernel
theorem dL_isDone_724 : decode cL_isDone 724 = .ok (.aload_n 0, 1) := by decide +kernel
theorem dL_isDone_725 : decode cL_isDone 725 = .ok (.iconst 2, 1) := by decide +kernel
theorem dL_isDone_726 : decode cL_isDone 726 = .ok (.iload 16, 2) := by decide +kernel
theorem dL_isDone_728 : decode cL_isDone 728 = .ok (.iload 17, 2) := by decide +kernel
theorem dL_isDone_730 : decode cL_isDone 730 = .ok (.iconst 0, 1) := by decide +kernel
theorem dL_isDone_731 : decode cL_isDone 731 = .ok (.iconst 0, 1) := by decide +kernel
theorem dL_isDone_732 : decode cL_isDone 732 = .ok (.invokestatic 115, 3) := by decide +kernel
theorem dL_isDone_735 : decode cL_isDone 735 = .ok (.iload 20, 2) := by decide +kernel
theorem dL_isDone_737 : decode cL_isDone 737 = .ok (.if_icmp .ne 7, 3) := by decide +kernel
theorem dL_isDone_740 : decode cL_isDone 740 = .ok (.iconst 1, 1) := by decide +kernel
theorem dL_isDone_741 : decode cL_isDone 741 = .ok (.goto 4, 3) := by decide +kernel
theorem dL_isDone_744 : decode cL_isDone 744 = .ok (.iconst 0, 1) := by decide +kernel
theorem dL_isDone_745 : decode cL_isDone 745 = .ok (.ireturn, 1) := by decide +kernel
theorem dL_isDone_746 : decode cL_isDone 746 = .ok (.iload 12, 2) := by decide +kernel
theorem dL_isDone_748 : decode cL_isDone 748 = .ok (.bipush 25, 2) := by decide +kernel
theorem dL_isDone_750 : decode cL_isDone 750 = .ok (.if_icmp .ge 311, 3) := by decide +kernel
theorem dL_isDone_753 : decode cL_isDone 753 = .ok (.iload 15, 2) := by decide +kernel
theorem dL_isDone_755 : decode cL_isDone 755 = .ok (.bipush 30, 2) := by decide +kernel
theorem dL_isDone_757 : decode cL_isDone 757 = .ok (.irem, 1) := by decide +kernel
theorem dL_isDone_758 : decode cL_isDone 758 = .ok (.ifCond .ne 7, 3) := by decide +kernel
theorem dL_isDone_761 : decode cL_isDone 761 = .ok (.iconst 3, 1) := by decide +kernel
theorem dL_isDone_762 : decode cL_isDone 762 = .ok (.goto 7, 3) := by decide +kernel
theorem dL_isDone_765 : decode cL_isDone 765 = .ok (.iload 15, 2) := by decide +kernel
theorem dL_isDone_767 : decode cL_isDone 767 = .ok (.iconst 3, 1) := by decide +kernel
theorem dL_isDone_768 : decode cL_isDone 768 = .ok (.irem, 1) := by decide +kernel
theorem dL_isDone_769 : decode cL_isDone 769 = .ok (.istore 19, 2) := by decide +kernel
theorem dL_isDone_771 : decode cL_isDone 771 = .ok (.iload 15, 2) := by decide +kernel
theorem dL_isDone_773 : decode cL_isDone 773 = .ok (.iconst 3, 1) := by decide +kernel
theorem dL_isDone_774 : decode cL_isDone 774 = .ok (.idiv, 1) := by decide +kernel
theorem dL_isDone_775 : decode cL_isDone 775 = .ok (.bipush 20, 2) := by decide +kernel
theorem dL_isDone_777 : decode cL_isDone 777 = .ok (.irem, 1) := by decide +kernel
theorem dL_isDone_778 : decode cL_isDone 778 = .ok (.ifCond .ne 8, 3) := by decide +kernel
theorem dL_isDone_781 : decode cL_isDone 781 = .ok (.bipush 16, 2) := by decide +kernel
theorem dL_isDone_783 : decode cL_isDone 783 = .ok (.goto 11, 3) := by decide +kernel
theorem dL_isDone_786 : decode cL_isDone 786 = .ok (.iload 15, 2) := by decide +kernel
theorem dL_isDone_788 : decode cL_isDone 788 = .ok (.bipush 60, 2) := by decide +kernel
theorem dL_isDone_790 : decode cL_isDone 790 = .ok (.idiv, 1) := by decide +kernel
theorem dL_isDone_791 : decode cL_isDone 791 = .ok (.bipush 16, 2) := by decide +kernel
theorem dL_isDone_793 : decode cL_isDone 793 = .ok (.irem, 1) := by decide +kernel
theorem dL_isDone_794 : decode cL_isDone 794 = .ok (.istore 20, 2) := by decide +kernel
theorem dL_isDone_796 : decode cL_isDone 796 = .ok (.iload 18, 2) := by decide +kernel
theorem dL_isDone_798 : decode cL_isDone 798 = .ok (.ifCond .eq 43, 3) := by decide +kernel
theorem dL_isDone_801 : decode cL_isDone 801 = .ok (.iload 19, 2) := by decide +kernel
theorem dL_isDone_803 : decode cL_isDone 803 = .ok (.iconst 3, 1) := by decide +kernel
theorem dL_isDone_804 : decode cL_isDone 804 = .ok (.if_icmp .ge 37, 3) := by decide +kernel
theorem dL_isDone_807 : decode cL_isDone 807 = .ok (.iload 20, 2) := by decide +kernel
theorem dL_isDone_809 : decode cL_isDone 809 = .ok (.bipush 16, 2) := by decide +kernel
theorem dL_isDone_811 : decode cL_isDone 811 = .ok (.if_icmp .ge 30, 3) := by decide +kernel
theorem dL_isDone_814 : decode cL_isDone 814 = .ok (.aload 7, 2) := by decide +kernel
theorem dL_isDone_816 : decode cL_isDone 816 = .ok (.iconst 4, 1) := by decide +kernel
theorem dL_isDone_817 : decode cL_isDone 817 = .ok (.iload 17, 2) := by decide +kernel
theorem dL_isDone_819 : decode cL_isDone 819 = .ok (.imul, 1) := by decide +kernel
theorem dL_isDone_820 : decode cL_isDone 820 = .ok (.iaload, 1) := by decide +kernel
theorem dL_isDone_821 : decode cL_isDone 821 = .ok (.iload 16, 2) := by decide +kernel
theorem dL_isDone_823 : decode cL_isDone 823 = .ok (.iconst 2, 1) := by decide +kernel
theorem dL_isDone_824 : decode cL_isDone 824 = .ok (.idiv, 1) := by decide +kernel
theorem dL_isDone_825 : decode cL_isDone 825 = .ok (.if_icmp .ne 16, 3) := by decide +kernel
theorem dL_isDone_828 : decode cL_isDone 828 = .ok (.iload 19, 2) := by decide +kernel
theorem dL_isDone_830 : decode cL_isDone 830 = .ok (.iload 16, 2) := by decide +kernel
theorem dL_isDone_832 : decode cL_isDone 832 = .ok (.iconst 2, 1) := by decide +kernel
theorem dL_isDone_833 : decode cL_isDone 833 = .ok (.idiv, 1) := by decide +kernel
theorem dL_isDone_834 : decode cL_isDone 834 = .ok (.if_icmp .eq 7, 3) := by decide +kernel
theorem dL_isDone_837 : decode cL_isDone 837 = .ok (.iconst 1, 1) := by decide +kernel
theorem dL_isDone_838 : decode cL_isDone 838 = .ok (.goto 4, 3) := by decide +kernel
theorem dL_isDone_841 : decode cL_isDone 841 = .ok (.iconst 0, 1) := by decide +kernel
theorem dL_isDone_842 : decode cL_isDone 842 = .ok (.istore 21, 2) := by decide +kernel
theorem dL_isDone_844 : decode cL_isDone 844 = .ok (.iload 18, 2) := by decide +kernel
theorem dL_isDone_846 : decode cL_isDone 846 = .ok (.ifCond .eq 9, 3) := by decide +kernel
theorem dL_isDone_849 : decode cL_isDone 849 = .ok (.iload 19, 2) := by decide +kernel
theorem dL_isDone_851 : decode cL_isDone 851 = .ok (.iconst 3, 1) := by decide +kernel
theorem dL_isDone_852 : decode cL_isDone 852 = .ok (.if_icmp .ne 9, 3) := by decide +kernel
theorem dL_isDone_855 : decode cL_isDone 855 = .ok (.sipush (-300), 3) := by decide +kernel
theorem dL_isDone_858 : decode cL_isDone 858 = .ok (.goto 38, 3) := by decide +kernel
theorem dL_isDone_861 : decode cL_isDone 861 = .ok (.iload 20, 2) := by decide +kernel
theorem dL_isDone_863 : decode cL_isDone 863 = .ok (.bipush 16, 2) := by decide +kernel
theorem dL_isDone_865 : decode cL_isDone 865 = .ok (.if_icmp .ne 9, 3) := by decide +kernel
theorem dL_isDone_868 : decode cL_isDone 868 = .ok (.sipush (-200), 3) := by decide +kernel
theorem dL_isDone_871 : decode cL_isDone 871 = .ok (.goto 25, 3) := by decide +kernel
theorem dL_isDone_874 : decode cL_isDone 874 = .ok (.iload 21, 2) := by decide +kernel
theorem dL_isDone_876 : decode cL_isDone 876 = .ok (.ifCond .eq 18, 3) := by decide +kernel
theorem dL_isDone_879 : decode cL_isDone 879 = .ok (.aload 7, 2) := by decide +kernel
theorem dL_isDone_881 : decode cL_isDone 881 = .ok (.iconst 4, 1) := by decide +kernel
theorem dL_isDone_882 : decode cL_isDone 882 = .ok (.iload 17, 2) := by decide +kernel
theorem dL_isDone_884 : decode cL_isDone 884 = .ok (.imul, 1) := by decide +kernel
theorem dL_isDone_885 : decode cL_isDone 885 = .ok (.iconst 1, 1) := by decide +kernel
theorem dL_isDone_886 : decode cL_isDone 886 = .ok (.iadd, 1) := by decide +kernel
theorem dL_isDone_887 : decode cL_isDone 887 = .ok (.iload 19, 2) := by decide +kernel
theorem dL_isDone_889 : decode cL_isDone 889 = .ok (.iadd, 1) := by decide +kernel
theorem dL_isDone_890 : decode cL_isDone 890 = .ok (.iaload, 1) := by decide +kernel
theorem dL_isDone_891 : decode cL_isDone 891 = .ok (.goto 5, 3) := by decide +kernel
theorem dL_isDone_894 : decode cL_isDone 894 = .ok (.bipush (-100), 2) := by decide +kernel
theorem dL_isDone_896 : decode cL_isDone 896 = .ok (.istore 22, 2) := by decide +kernel
theorem dL_isDone_898 : decode cL_isDone 898 = .ok (.iload 21, 2) := by decide +kernel
theorem dL_isDone_900 : decode cL_isDone 900 = .ok (.ifCond .eq 137, 3) := by decide +kernel
theorem dL_isDone_903 : decode cL_isDone 903 = .ok (.aload 7, 2) := by decide +kernel
theorem dL_isDone_905 : decode cL_isDone 905 = .ok (.iconst 4, 1) := by decide +kernel
theorem dL_isDone_906 : decode cL_isDone 906 = .ok (.iload 17, 2) := by decide +kernel
theorem dL_isDone_908 : decode cL_isDone 908 = .ok (.imul, 1) := by decide +kernel
theorem dL_isDone_909 : decode cL_isDone 909 = .ok (.iconst 1, 1) := by decide +kernel
theorem dL_isDone_910 : decode cL_isDone 910 = .ok (.iadd, 1) := by decide +kernel
theorem dL_isDone_911 : decode cL_isDone 911 = .ok (.iload 19, 2) := by decide +kernel
theorem dL_isDone_913 : decode cL_isDone 913 = .ok (.iadd, 1) := by decide +kernel
theorem dL_isDone_914 : decode cL_isDone 914 = .ok (.iload 20, 2) := by decide +kernel
theorem dL_isDone_916 : decode cL_isDone 916 = .ok (.iastore, 1) := by decide +kernel
theorem dL_isDone_917 : decode cL_isDone 917 = .ok (.iconst 0, 1) := by decide +kernel
theorem dL_isDone_918 : decode cL_isDone 918 = .ok (.istore 23, 2) := by decide +kernel
theorem dL_isDone_920 : decode cL_isDone 920 = .ok (.iload 23, 2) := by decide +kernel
theorem dL_isDone_922 : decode cL_isDone 922 = .ok (.iconst 4, 1) := by decide +kernel
theorem dL_isDone_923 : decode cL_isDone 923 = .ok (.if_icmp .ge 114, 3) := by decide +kernel
theorem dL_isDone_926 : decode cL_isDone 926 = .ok (.iconst 2, 1) := by decide +kernel
theorem dL_isDone_927 : decode cL_isDone 927 = .ok (.iload 19, 2) := by decide +kernel
theorem dL_isDone_929 : decode cL_isDone 929 = .ok (.imul, 1) := by decide +kernel
theorem dL_isDone_930 : decode cL_isDone 930 = .ok (.istore 24, 2) := by decide +kernel
theorem dL_isDone_932 : decode cL_isDone 932 = .ok (.iload 24, 2) := by decide +kernel
theorem dL_isDone_934 : decode cL_isDone 934 = .ok (.iconst 2, 1) := by decide +kernel
theorem dL_isDone_935 : decode cL_isDone 935 = .ok (.iload 19, 2) := by decide +kernel
theorem dL_isDone_937 : decode cL_isDone 937 = .ok (.imul, 1) := by decide +kernel
theorem dL_isDone_938 : decode cL_isDone 938 = .ok (.iconst 2, 1) := by decide +kernel
theorem dL_isDone_939 : decode cL_isDone 939 = .ok (.iadd, 1) := by decide +kernel
theorem dL_isDone_940 : decode cL_isDone 940 = .ok (.if_icmp .ge 91, 3) := by decide +kernel
theorem dL_isDone_943 : decode cL_isDone 943 = .ok (.iload 20, 2) := by decide +kernel
theorem dL_isDone_945 : decode cL_isDone 945 = .ok (.iload 23, 2) := by decide +kernel
theorem dL_isDone_947 : decode cL_isDone 947 = .ok (.ishr, 1) := by decide +kernel
theorem dL_isDone_948 : decode cL_isDone 948 = .ok (.iconst 1, 1) := by decide +kernel
theorem dL_isDone_949 : decode cL_isDone 949 = .ok (.iand, 1) := by decide +kernel
theorem dL_isDone_950 : decode cL_isDone 950 = .ok (.iconst 1, 1) := by decide +kernel
theorem dL_isDone_951 : decode cL_isDone 951 = .ok (.if_icmp .ne 7, 3) := by decide +kernel
theorem dL_isDone_954 : decode cL_isDone 954 = .ok (.iconst 1, 1) := by decide +kernel
theorem dL_isDone_955 : decode cL_isDone 955 = .ok (.goto 4, 3) := by decide +kernel
theorem dL_isDone_958 : decode cL_isDone 958 = .ok (.iconst 0, 1) := by decide +kernel
theorem dL_isDone_959 : decode cL_isDone 959 = .ok (.istore 25, 2) := by decide +kernel
theorem dL_isDone_961 : decode cL_isDone 961 = .ok (.aload_n 3, 1) := by decide +kernel
theorem dL_isDone_962 : decode cL_isDone 962 = .ok (.iload 24, 2) := by decide +kernel
theorem dL_isDone_964 : decode cL_isDone 964 = .ok (.iload 17, 2) := by decide +kernel
theorem dL_isDone_966 : decode cL_isDone 966 = .ok (.iload 23, 2) := by decide +kernel
theorem dL_isDone_968 : decode cL_isDone 968 = .ok (.invokestatic 71, 3) := by decide +kernel
theorem dL_isDone_971 : decode cL_isDone 971 = .ok (.iload 25, 2) := by decide +kernel
theorem dL_isDone_973 : decode cL_isDone 973 = .ok (.ifCond .eq 17, 3) := by decide +kernel
theorem dL_isDone_976 : decode cL_isDone 976 = .ok (.aload_n 3, 1) := by decide +kernel
theorem dL_isDone_977 : decode cL_isDone 977 = .ok (.iload 24, 2) := by decide +kernel
theorem dL_isDone_979 : decode cL_isDone 979 = .ok (.iload 17, 2) := by decide +kernel
theorem dL_isDone_981 : decode cL_isDone 981 = .ok (.iload 23, 2) := by decide +kernel
theorem dL_isDone_983 : decode cL_isDone 983 = .ok (.invokestatic 71, 3) := by decide +kernel
theorem dL_isDone_986 : decode cL_isDone 986 = .ok (.laload, 1) := by decide +kernel
theorem dL_isDone_987 : decode cL_isDone 987 = .ok (.goto 4, 3) := by decide +kernel
theorem dL_isDone_990 : decode cL_isDone 990 = .ok (.lconst 0, 1) := by decide +kernel
theorem dL_isDone_991 : decode cL_isDone 991 = .ok (.lastore, 1) := by decide +kernel
theorem dL_isDone_992 : decode cL_isDone 992 = .ok (.aload 4, 2) := by decide +kernel
theorem dL_isDone_994 : decode cL_isDone 994 = .ok (.iload 24, 2) := by decide +kernel
theorem dL_isDone_996 : decode cL_isDone 996 = .ok (.iload 17, 2) := by decide +kernel
theorem dL_isDone_998 : decode cL_isDone 998 = .ok (.iload 23, 2) := by decide +kernel
theorem dL_isDone_1000 : decode cL_isDone 1000 = .ok (.invokestatic 71, 3) := by decide +kernel
theorem dL_isDone_1003 : decode cL_isDone 1003 = .ok (.iload 25, 2) := by decide +kernel
theorem dL_isDone_1005 : decode cL_isDone 1005 = .ok (.ifCond .eq 18, 3) := by decide +kernel
theorem dL_isDone_1008 : decode cL_isDone 1008 = .ok (.aload 4, 2) := by decide +kernel
theorem dL_isDone_1010 : decode cL_isDone 1010 = .ok (.iload 24, 2) := by decide +kernel
theorem dL_isDone_1012 : decode cL_isDone 1012 = .ok (.iload 17, 2) := by decide +kernel
theorem dL_isDone_1014 : decode cL_isDone 1014 = .ok (.iload 23, 2) := by decide +kernel
theorem dL_isDone_1016 : decode cL_isDone 1016 = .ok (.invokestatic 71, 3) := by decide +kernel
theorem dL_isDone_1019 : decode cL_isDone 1019 = .ok (.laload, 1) := by decide +kernel
theorem dL_isDone_1020 : decode cL_isDone 1020 = .ok (.goto 4, 3) := by decide +kernel
theorem dL_isDone_1023 : decode cL_isDone 1023 = .ok (.lconst 0, 1) := by decide +kernel
theorem dL_isDone_1024 : decode cL_isDone 1024 = .ok (.lastore, 1) := by decide +kernel
theorem dL_isDone_1025 : decode cL_isDone 1025 = .ok (.iinc 24 1, 3) := by decide +kernel
theorem dL_isDone_1028 : decode cL_isDone 1028 = .ok (.goto (-96), 3) := by decide +kernel
theorem dL_isDone_1031 : decode cL_isDone 1031 = .ok (.iinc 23 1, 3) := by decide +kernel
theorem dL_isDone_1034 : decode cL_isDone 1034 = .ok (.goto (-114), 3) := by decide +kernel
theorem dL_isDone_1037 : decode cL_isDone 1037 = .ok (.aload_n 0, 1) := by decide +kernel
theorem dL_isDone_1038 : decode cL_isDone 1038 = .ok (.iconst 3, 1) := by decide +kernel
theorem dL_isDone_1039 : decode cL_isDone 1039 = .ok (.iload 16, 2) := by decide +kernel
theorem dL_isDone_1041 : decode cL_isDone 1041 = .ok (.iload 17, 2) := by decide +kernel
theorem dL_isDone_1043 : decode cL_isDone 1043 = .ok (.iload 19, 2) := by decide +kernel
theorem dL_isDone_1045 : decode cL_isDone 1045 = .ok (.iload 20, 2) := by decide +kernel
theorem dL_isDone_1047 : decode cL_isDone 1047 = .ok (.invokestatic 115, 3) := by decide +kernel
theorem dL_isDone_1050 : decode cL_isDone 1050 = .ok (.iload 22, 2) := by decide +kernel
theorem dL_isDone_1052 : decode cL_isDone 1052 = .ok (.if_icmp .ne 7, 3) := by decide +kernel
theorem dL_isDone_1055 : decode cL_isDone 1055 = .ok (.iconst 1, 1) := by decide +kernel
theorem dL_isDone_1056 : decode cL_isDone 1056 = .ok (.goto 4, 3) := by decide +kernel
theorem dL_isDone_1059 : decode cL_isDone 1059 = .ok (.iconst 0, 1) := by decide +kernel
theorem dL_isDone_1060 : decode cL_isDone 1060 = .ok (.ireturn, 1) := by decide +kernel
theorem dL_isDone_1061 : decode cL_isDone 1061 = .ok (.iload 12, 2) := by decide +kernel
theorem dL_isDone_1063 : decode cL_isDone 1063 = .ok (.bipush 37, 2) := by decide +kernel
theorem dL_isDone_1065 : decode cL_isDone 1065 = .ok (.if_icmp .ge 47, 3) := by decide +kernel
theorem dL_isDone_1068 : decode cL_isDone 1068 = .ok (.aload_n 0, 1) := by decide +kernel
theorem dL_isDone_1069 : decode cL_isDone 1069 = .ok (.aload_n 3, 1) := by decide +kernel
theorem dL_isDone_1070 : decode cL_isDone 1070 = .ok (.aload 4, 2) := by decide +kernel
theorem dL_isDone_1072 : decode cL_isDone 1072 = .ok (.aload 5, 2) := by decide +kernel
theorem dL_isDone_1074 : decode cL_isDone 1074 = .ok (.aload 6, 2) := by decide +kernel
theorem dL_isDone_1076 : decode cL_isDone 1076 = .ok (.aload 7, 2) := by decide +kernel
theorem dL_isDone_1078 : decode cL_isDone 1078 = .ok (.aload 8, 2) := by decide +kernel
theorem dL_isDone_1080 : decode cL_isDone 1080 = .ok (.aload 9, 2) := by decide +kernel
theorem dL_isDone_1082 : decode cL_isDone 1082 = .ok (.aload 10, 2) := by decide +kernel
theorem dL_isDone_1084 : decode cL_isDone 1084 = .ok (.aload 11, 2) := by decide +kernel
theorem dL_isDone_1086 : decode cL_isDone 1086 = .ok (.iload 16, 2) := by decide +kernel
theorem dL_isDone_1088 : decode cL_isDone 1088 = .ok (.iload 14, 2) := by decide +kernel
theorem dL_isDone_1090 : decode cL_isDone 1090 = .ok (.bipush 30, 2) := by decide +kernel
theorem dL_isDone_1092 : decode cL_isDone 1092 = .ok (.irem, 1) := by decide +kernel
theorem dL_isDone_1093 : decode cL_isDone 1093 = .ok (.ifCond .ne 8, 3) := by decide +kernel
theorem dL_isDone_1096 : decode cL_isDone 1096 = .ok (.bipush 6, 2) := by decide +kernel
theorem dL_isDone_1098 : decode cL_isDone 1098 = .ok (.goto 10, 3) := by decide +kernel
theorem dL_isDone_1101 : decode cL_isDone 1101 = .ok (.iload 14, 2) := by decide +kernel
theorem dL_isDone_1103 : decode cL_isDone 1103 = .ok (.iconst 2, 1) := by decide +kernel
theorem dL_isDone_1104 : decode cL_isDone 1104 = .ok (.idiv, 1) := by decide +kernel
theorem dL_isDone_1105 : decode cL_isDone 1105 = .ok (.bipush 6, 2) := by decide +kernel
theorem dL_isDone_1107 : decode cL_isDone 1107 = .ok (.irem, 1) := by decide +kernel
theorem dL_isDone_1108 : decode cL_isDone 1108 = .ok (.invokestatic 134, 3) := by decide +kernel
theorem dL_isDone_1111 : decode cL_isDone 1111 = .ok (.ireturn, 1) := by decide +kernel
theorem dL_isDone_1112 : decode cL_isDone 1112 = .ok (.aload_n 0, 1) := by decide +kernel
theorem dL_isDone_1113 : decode cL_isDone 1113 = .ok (.aload_n 3, 1) := by decide +kernel
theorem dL_isDone_1114 : decode cL_isDone 1114 = .ok (.aload 4, 2) := by decide +kernel
theorem dL_isDone_1116 : decode cL_isDone 1116 = .ok (.aload 5, 2) := by decide +kernel
theorem dL_isDone_1118 : decode cL_isDone 1118 = .ok (.aload 6, 2) := by decide +kernel
theorem dL_isDone_1120 : decode cL_isDone 1120 = .ok (.aload 8, 2) := by decide +kernel
theorem dL_isDone_1122 : decode cL_isDone 1122 = .ok (.aload 9, 2) := by decide +kernel
theorem dL_isDone_1124 : decode cL_isDone 1124 = .ok (.aload 10, 2) := by decide +kernel
theorem dL_isDone_1126 : decode cL_isDone 1126 = .ok (.aload 11, 2) := by decide +kernel
theorem dL_isDone_1128 : decode cL_isDone 1128 = .ok (.iload 13, 2) := by decide +kernel
theorem dL_isDone_1130 : decode cL_isDone 1130 = .ok (.bipush 20, 2) := by decide +kernel
theorem dL_isDone_1132 : decode cL_isDone 1132 = .ok (.irem, 1) := by decide +kernel
theorem dL_isDone_1133 : decode cL_isDone 1133 = .ok (.ifCond .ne 8, 3) := by decide +kernel
theorem dL_isDone_1136 : decode cL_isDone 1136 = .ok (.bipush 25, 2) := by decide +kernel
theorem dL_isDone_1138 : decode cL_isDone 1138 = .ok (.goto 10, 3) := by decide +kernel
theorem dL_isDone_1141 : decode cL_isDone 1141 = .ok (.iconst 1, 1) := by decide +kernel
theorem dL_isDone_1142 : decode cL_isDone 1142 = .ok (.iload 15, 2) := by decide +kernel
theorem dL_isDone_1144 : decode cL_isDone 1144 = .ok (.bipush 15, 2) := by decide +kernel
theorem dL_isDone_1146 : decode cL_isDone 1146 = .ok (.irem, 1) := by decide +kernel
theorem dL_isDone_1147 : decode cL_isDone 1147 = .ok (.iadd, 1) := by decide +kernel
theorem dL_isDone_1148 : decode cL_isDone 1148 = .ok (.invokestatic 138, 3) := by decide +kernel
theorem dL_isDone_1151 : decode cL_isDone 1151 = .ok (.ireturn, 1) := by decide +kernel
theorem dL_law_0 : decode cL_law 0 = .ok (.new 9, 3) := by decide +kernel
theorem dL_law_3 : decode cL_law 3 = .ok (.dup, 1) := by decide +kernel
theorem dL_law_4 : decode cL_law 4 = .ok (.invokespecial 142, 3) := by decide +kernel
theorem dL_law_7 : decode cL_law 7 = .ok (.astore_n 1, 1) := by decide +kernel
theorem dL_law_8 : decode cL_law 8 = .ok (.bipush 48, 2) := by decide +kernel
theorem dL_law_10 : decode cL_law 10 = .ok (.newarray .long, 2) := by decide +kernel
theorem dL_law_12 : decode cL_law 12 = .ok (.astore_n 2, 1) := by decide +kernel
theorem dL_law_13 : decode cL_law 13 = .ok (.bipush 48, 2) := by decide +kernel
theorem dL_law_15 : decode cL_law 15 = .ok (.newarray .long, 2) := by decide +kernel
theorem dL_law_17 : decode cL_law 17 = .ok (.astore_n 3, 1) := by decide +kernel
theorem dL_law_18 : decode cL_law 18 = .ok (.bipush 48, 2) := by decide +kernel
theorem dL_law_20 : decode cL_law 20 = .ok (.newarray .long, 2) := by decide +kernel
theorem dL_law_22 : decode cL_law 22 = .ok (.astore 4, 2) := by decide +kernel
theorem dL_law_24 : decode cL_law 24 = .ok (.bipush 12, 2) := by decide +kernel
theorem dL_law_26 : decode cL_law 26 = .ok (.newarray .int, 2) := by decide +kernel
theorem dL_law_28 : decode cL_law 28 = .ok (.astore 5, 2) := by decide +kernel
theorem dL_law_30 : decode cL_law 30 = .ok (.bipush 8, 2) := by decide +kernel
theorem dL_law_32 : decode cL_law 32 = .ok (.newarray .int, 2) := by decide +kernel
theorem dL_law_34 : decode cL_law 34 = .ok (.astore 6, 2) := by decide +kernel
theorem dL_law_36 : decode cL_law 36 = .ok (.bipush 40, 2) := by decide +kernel
theorem dL_law_38 : decode cL_law 38 = .ok (.newarray .long, 2) := by decide +kernel
theorem dL_law_40 : decode cL_law 40 = .ok (.astore 7, 2) := by decide +kernel
theorem dL_law_42 : decode cL_law 42 = .ok (.bipush 60, 2) := by decide +kernel
theorem dL_law_44 : decode cL_law 44 = .ok (.newarray .int, 2) := by decide +kernel
theorem dL_law_46 : decode cL_law 46 = .ok (.astore 8, 2) := by decide +kernel
theorem dL_law_48 : decode cL_law 48 = .ok (.bipush 10, 2) := by decide +kernel
theorem dL_law_50 : decode cL_law 50 = .ok (.newarray .int, 2) := by decide +kernel
theorem dL_law_52 : decode cL_law 52 = .ok (.astore 9, 2) := by decide +kernel
theorem dL_law_54 : decode cL_law 54 = .ok (.bipush 9, 2) := by decide +kernel
theorem dL_law_56 : decode cL_law 56 = .ok (.newarray .int, 2) := by decide +kernel
theorem dL_law_58 : decode cL_law 58 = .ok (.astore 10, 2) := by decide +kernel
theorem dL_law_60 : decode cL_law 60 = .ok (.aload_n 1, 1) := by decide +kernel
theorem dL_law_61 : decode cL_law 61 = .ok (.iconst 0, 1) := by decide +kernel
theorem dL_law_62 : decode cL_law 62 = .ok (.iconst 0, 1) := by decide +kernel
theorem dL_law_63 : decode cL_law 63 = .ok (.iconst 0, 1) := by decide +kernel
theorem dL_law_64 : decode cL_law 64 = .ok (.iconst 0, 1) := by decide +kernel
theorem dL_law_65 : decode cL_law 65 = .ok (.iconst 0, 1) := by decide +kernel
theorem dL_law_66 : decode cL_law 66 = .ok (.invokestatic 93, 3) := by decide +kernel
theorem dL_law_69 : decode cL_law 69 = .ok (.sipush (-300), 3) := by decide +kernel
theorem dL_law_72 : decode cL_law 72 = .ok (.if_icmp .ne 26, 3) := by decide +kernel
theorem dL_law_75 : decode cL_law 75 = .ok (.aload_n 1, 1) := by decide +kernel
theorem dL_law_76 : decode cL_law 76 = .ok (.iconst 0, 1) := by decide +kernel
theorem dL_law_77 : decode cL_law 77 = .ok (.invokevirtual 56, 3) := by decide +kernel
theorem dL_law_80 : decode cL_law 80 = .ok (.ifCond .ne 18, 3) := by decide +kernel
theorem dL_law_83 : decode cL_law 83 = .ok (.aload_n 1, 1) := by decide +kernel
theorem dL_law_84 : decode cL_law 84 = .ok (.iconst 0, 1) := by decide +kernel
theorem dL_law_85 : decode cL_law 85 = .ok (.iconst 5, 1) := by decide +kernel
theorem dL_law_86 : decode cL_law 86 = .ok (.invokevirtual 59, 3) := by decide +kernel
theorem dL_law_89 : decode cL_law 89 = .ok (.fconst 1, 1) := by decide +kernel
theorem dL_law_90 : decode cL_law 90 = .ok (.fcmp .l, 1) := by decide +kernel
theorem dL_law_91 : decode cL_law 91 = .ok (.ifCond .ne 7, 3) := by decide +kernel
theorem dL_law_94 : decode cL_law 94 = .ok (.iconst 1, 1) := by decide +kernel
theorem dL_law_95 : decode cL_law 95 = .ok (.goto 4, 3) := by decide +kernel
theorem dL_law_98 : decode cL_law 98 = .ok (.iconst 0, 1) := by decide +kernel
theorem dL_law_99 : decode cL_law 99 = .ok (.istore 11, 2) := by decide +kernel
theorem dL_law_101 : decode cL_law 101 = .ok (.iconst 0, 1) := by decide +kernel
theorem dL_law_102 : decode cL_law 102 = .ok (.istore 12, 2) := by decide +kernel
theorem dL_law_104 : decode cL_law 104 = .ok (.iload 12, 2) := by decide +kernel
theorem dL_law_106 : decode cL_law 106 = .ok (.bipush 58, 2) := by decide +kernel
theorem dL_law_108 : decode cL_law 108 = .ok (.if_icmp .ge 159, 3) := by decide +kernel
theorem dL_law_111 : decode cL_law 111 = .ok (.iload 11, 2) := by decide +kernel
theorem dL_law_113 : decode cL_law 113 = .ok (.ifCond .eq 154, 3) := by decide +kernel
theorem dL_law_116 : decode cL_law 116 = .ok (.aload_n 1, 1) := by decide +kernel
theorem dL_law_117 : decode cL_law 117 = .ok (.aload_n 0, 1) := by decide +kernel
theorem dL_law_118 : decode cL_law 118 = .ok (.iconst 4, 1) := by decide +kernel
theorem dL_law_119 : decode cL_law 119 = .ok (.iload 12, 2) := by decide +kernel
theorem dL_law_121 : decode cL_law 121 = .ok (.imul, 1) := by decide +kernel
theorem dL_law_122 : decode cL_law 122 = .ok (.aload_n 2, 1) := by decide +kernel
theorem dL_law_123 : decode cL_law 123 = .ok (.aload_n 3, 1) := by decide +kernel
theorem dL_law_124 : decode cL_law 124 = .ok (.aload 4, 2) := by decide +kernel
theorem dL_law_126 : decode cL_law 126 = .ok (.aload 5, 2) := by decide +kernel
theorem dL_law_128 : decode cL_law 128 = .ok (.aload 6, 2) := by decide +kernel
theorem dL_law_130 : decode cL_law 130 = .ok (.aload 7, 2) := by decide +kernel
theorem dL_law_132 : decode cL_law 132 = .ok (.aload 8, 2) := by decide +kernel
theorem dL_law_134 : decode cL_law 134 = .ok (.aload 9, 2) := by decide +kernel
theorem dL_law_136 : decode cL_law 136 = .ok (.aload 10, 2) := by decide +kernel
theorem dL_law_138 : decode cL_law 138 = .ok (.invokestatic 143, 3) := by decide +kernel
theorem dL_law_141 : decode cL_law 141 = .ok (.ifCond .eq 51, 3) := by decide +kernel
theorem dL_law_144 : decode cL_law 144 = .ok (.aload_n 1, 1) := by decide +kernel
theorem dL_law_145 : decode cL_law 145 = .ok (.aload_n 2, 1) := by decide +kernel
theorem dL_law_146 : decode cL_law 146 = .ok (.aload 5, 2) := by decide +kernel
theorem dL_law_148 : decode cL_law 148 = .ok (.aload 6, 2) := by decide +kernel
theorem dL_law_150 : decode cL_law 150 = .ok (.aload 7, 2) := by decide +kernel
theorem dL_law_152 : decode cL_law 152 = .ok (.aload 8, 2) := by decide +kernel
theorem dL_law_154 : decode cL_law 154 = .ok (.aload 9, 2) := by decide +kernel
theorem dL_law_156 : decode cL_law 156 = .ok (.aload 10, 2) := by decide +kernel
theorem dL_law_158 : decode cL_law 158 = .ok (.aload_n 0, 1) := by decide +kernel
theorem dL_law_159 : decode cL_law 159 = .ok (.iconst 4, 1) := by decide +kernel
theorem dL_law_160 : decode cL_law 160 = .ok (.iload 12, 2) := by decide +kernel
theorem dL_law_162 : decode cL_law 162 = .ok (.imul, 1) := by decide +kernel
theorem dL_law_163 : decode cL_law 163 = .ok (.iconst 1, 1) := by decide +kernel
theorem dL_law_164 : decode cL_law 164 = .ok (.iadd, 1) := by decide +kernel
theorem dL_law_165 : decode cL_law 165 = .ok (.bipush 6, 2) := by decide +kernel
theorem dL_law_167 : decode cL_law 167 = .ok (.invokestatic 130, 3) := by decide +kernel
theorem dL_law_170 : decode cL_law 170 = .ok (.aload_n 0, 1) := by decide +kernel
theorem dL_law_171 : decode cL_law 171 = .ok (.iconst 4, 1) := by decide +kernel
theorem dL_law_172 : decode cL_law 172 = .ok (.iload 12, 2) := by decide +kernel
theorem dL_law_174 : decode cL_law 174 = .ok (.imul, 1) := by decide +kernel
theorem dL_law_175 : decode cL_law 175 = .ok (.iconst 2, 1) := by decide +kernel
theorem dL_law_176 : decode cL_law 176 = .ok (.iadd, 1) := by decide +kernel
theorem dL_law_177 : decode cL_law 177 = .ok (.bipush 6, 2) := by decide +kernel
theorem dL_law_179 : decode cL_law 179 = .ok (.invokestatic 130, 3) := by decide +kernel
theorem dL_law_182 : decode cL_law 182 = .ok (.invokestatic 147, 3) := by decide +kernel
theorem dL_law_185 : decode cL_law 185 = .ok (.ifCond .eq 7, 3) := by decide +kernel
theorem dL_law_188 : decode cL_law 188 = .ok (.iconst 1, 1) := by decide +kernel
theorem dL_law_189 : decode cL_law 189 = .ok (.goto 4, 3) := by decide +kernel
theorem dL_law_192 : decode cL_law 192 = .ok (.iconst 0, 1) := by decide +kernel
theorem dL_law_193 : decode cL_law 193 = .ok (.istore 11, 2) := by decide +kernel
theorem dL_law_195 : decode cL_law 195 = .ok (.iconst 0, 1) := by decide +kernel
theorem dL_law_196 : decode cL_law 196 = .ok (.istore 13, 2) := by decide +kernel
theorem dL_law_198 : decode cL_law 198 = .ok (.iload 13, 2) := by decide +kernel
theorem dL_law_200 : decode cL_law 200 = .ok (.bipush 6, 2) := by decide +kernel
theorem dL_law_202 : decode cL_law 202 = .ok (.if_icmp .ge 59, 3) := by decide +kernel
theorem dL_law_205 : decode cL_law 205 = .ok (.iload 11, 2) := by decide +kernel
theorem dL_law_207 : decode cL_law 207 = .ok (.ifCond .eq 54, 3) := by decide +kernel
theorem dL_law_210 : decode cL_law 210 = .ok (.aload_n 1, 1) := by decide +kernel
theorem dL_law_211 : decode cL_law 211 = .ok (.aload_n 2, 1) := by decide +kernel
theorem dL_law_212 : decode cL_law 212 = .ok (.aload_n 3, 1) := by decide +kernel
theorem dL_law_213 : decode cL_law 213 = .ok (.aload 5, 2) := by decide +kernel
theorem dL_law_215 : decode cL_law 215 = .ok (.aload 6, 2) := by decide +kernel
theorem dL_law_217 : decode cL_law 217 = .ok (.aload 7, 2) := by decide +kernel
theorem dL_law_219 : decode cL_law 219 = .ok (.aload 8, 2) := by decide +kernel
theorem dL_law_221 : decode cL_law 221 = .ok (.aload 9, 2) := by decide +kernel
theorem dL_law_223 : decode cL_law 223 = .ok (.aload 10, 2) := by decide +kernel
theorem dL_law_225 : decode cL_law 225 = .ok (.iload 13, 2) := by decide +kernel
theorem dL_law_227 : decode cL_law 227 = .ok (.iload 13, 2) := by decide +kernel
theorem dL_law_229 : decode cL_law 229 = .ok (.iload 12, 2) := by decide +kernel
theorem dL_law_231 : decode cL_law 231 = .ok (.bipush 6, 2) := by decide +kernel
theorem dL_law_233 : decode cL_law 233 = .ok (.irem, 1) := by decide +kernel
theorem dL_law_234 : decode cL_law 234 = .ok (.if_icmp .ne 14, 3) := by decide +kernel
theorem dL_law_237 : decode cL_law 237 = .ok (.iload 12, 2) := by decide +kernel
theorem dL_law_239 : decode cL_law 239 = .ok (.bipush 6, 2) := by decide +kernel
theorem dL_law_241 : decode cL_law 241 = .ok (.idiv, 1) := by decide +kernel
theorem dL_law_242 : decode cL_law 242 = .ok (.bipush 8, 2) := by decide +kernel
theorem dL_law_244 : decode cL_law 244 = .ok (.irem, 1) := by decide +kernel
theorem dL_law_245 : decode cL_law 245 = .ok (.goto 5, 3) := by decide +kernel
theorem dL_law_248 : decode cL_law 248 = .ok (.bipush 8, 2) := by decide +kernel
theorem dL_law_250 : decode cL_law 250 = .ok (.invokestatic 151, 3) := by decide +kernel
theorem dL_law_253 : decode cL_law 253 = .ok (.istore 11, 2) := by decide +kernel
theorem dL_law_255 : decode cL_law 255 = .ok (.iinc 13 1, 3) := by decide +kernel
theorem dL_law_258 : decode cL_law 258 = .ok (.goto (-60), 3) := by decide +kernel
theorem dL_law_261 : decode cL_law 261 = .ok (.iinc 12 1, 3) := by decide +kernel
theorem dL_law_264 : decode cL_law 264 = .ok (.goto (-160), 3) := by decide +kernel
theorem dL_law_267 : decode cL_law 267 = .ok (.iload 11, 2) := by decide +kernel
theorem dL_law_269 : decode cL_law 269 = .ok (.ifCond .eq 148, 3) := by decide +kernel
theorem dL_law_272 : decode cL_law 272 = .ok (.aload_n 1, 1) := by decide +kernel
theorem dL_law_273 : decode cL_law 273 = .ok (.iconst 0, 1) := by decide +kernel
theorem dL_law_274 : decode cL_law 274 = .ok (.iconst (-1), 1) := by decide +kernel
theorem dL_law_275 : decode cL_law 275 = .ok (.iconst 0, 1) := by decide +kernel
theorem dL_law_276 : decode cL_law 276 = .ok (.iconst 0, 1) := by decide +kernel
theorem dL_law_277 : decode cL_law 277 = .ok (.iconst 0, 1) := by decide +kernel
theorem dL_law_278 : decode cL_law 278 = .ok (.invokestatic 115, 3) := by decide +kernel
theorem dL_law_281 : decode cL_law 281 = .ok (.sipush (-300), 3) := by decide +kernel
theorem dL_law_284 : decode cL_law 284 = .ok (.if_icmp .ne 133, 3) := by decide +kernel
theorem dL_law_287 : decode cL_law 287 = .ok (.aload_n 1, 1) := by decide +kernel
theorem dL_law_288 : decode cL_law 288 = .ok (.iconst 1, 1) := by decide +kernel
theorem dL_law_289 : decode cL_law 289 = .ok (.bipush 6, 2) := by decide +kernel
theorem dL_law_291 : decode cL_law 291 = .ok (.iconst 0, 1) := by decide +kernel
theorem dL_law_292 : decode cL_law 292 = .ok (.iconst 0, 1) := by decide +kernel
theorem dL_law_293 : decode cL_law 293 = .ok (.iconst 0, 1) := by decide +kernel
theorem dL_law_294 : decode cL_law 294 = .ok (.invokestatic 115, 3) := by decide +kernel
theorem dL_law_297 : decode cL_law 297 = .ok (.sipush (-300), 3) := by decide +kernel
theorem dL_law_300 : decode cL_law 300 = .ok (.if_icmp .ne 117, 3) := by decide +kernel
theorem dL_law_303 : decode cL_law 303 = .ok (.aload_n 1, 1) := by decide +kernel
theorem dL_law_304 : decode cL_law 304 = .ok (.iconst 2, 1) := by decide +kernel
theorem dL_law_305 : decode cL_law 305 = .ok (.iconst 0, 1) := by decide +kernel
theorem dL_law_306 : decode cL_law 306 = .ok (.bipush 10, 2) := by decide +kernel
theorem dL_law_308 : decode cL_law 308 = .ok (.iconst 0, 1) := by decide +kernel
theorem dL_law_309 : decode cL_law 309 = .ok (.iconst 0, 1) := by decide +kernel
theorem dL_law_310 : decode cL_law 310 = .ok (.invokestatic 115, 3) := by decide +kernel
theorem dL_law_313 : decode cL_law 313 = .ok (.sipush (-300), 3) := by decide +kernel
theorem dL_law_316 : decode cL_law 316 = .ok (.if_icmp .ne 101, 3) := by decide +kernel
theorem dL_law_319 : decode cL_law 319 = .ok (.aload_n 1, 1) := by decide +kernel
theorem dL_law_320 : decode cL_law 320 = .ok (.iconst 3, 1) := by decide +kernel
theorem dL_law_321 : decode cL_law 321 = .ok (.iconst 0, 1) := by decide +kernel
theorem dL_law_322 : decode cL_law 322 = .ok (.iconst (-1), 1) := by decide +kernel
theorem dL_law_323 : decode cL_law 323 = .ok (.iconst 0, 1) := by decide +kernel
theorem dL_law_324 : decode cL_law 324 = .ok (.iconst 0, 1) := by decide +kernel
theorem dL_law_325 : decode cL_law 325 = .ok (.invokestatic 115, 3) := by decide +kernel
theorem dL_law_328 : decode cL_law 328 = .ok (.sipush (-300), 3) := by decide +kernel
theorem dL_law_331 : decode cL_law 331 = .ok (.if_icmp .ne 86, 3) := by decide +kernel
theorem dL_law_334 : decode cL_law 334 = .ok (.aload_n 1, 1) := by decide +kernel
theorem dL_law_335 : decode cL_law 335 = .ok (.iconst 4, 1) := by decide +kernel
theorem dL_law_336 : decode cL_law 336 = .ok (.iconst (-1), 1) := by decide +kernel
theorem dL_law_337 : decode cL_law 337 = .ok (.iconst 0, 1) := by decide +kernel
theorem dL_law_338 : decode cL_law 338 = .ok (.iconst 0, 1) := by decide +kernel
theorem dL_law_339 : decode cL_law 339 = .ok (.iconst 0, 1) := by decide +kernel
theorem dL_law_340 : decode cL_law 340 = .ok (.invokestatic 115, 3) := by decide +kernel
theorem dL_law_343 : decode cL_law 343 = .ok (.sipush (-300), 3) := by decide +kernel
theorem dL_law_346 : decode cL_law 346 = .ok (.if_icmp .ne 71, 3) := by decide +kernel
theorem dL_law_349 : decode cL_law 349 = .ok (.aload_n 1, 1) := by decide +kernel
theorem dL_law_350 : decode cL_law 350 = .ok (.iconst 5, 1) := by decide +kernel
theorem dL_law_351 : decode cL_law 351 = .ok (.iconst 0, 1) := by decide +kernel
theorem dL_law_352 : decode cL_law 352 = .ok (.iconst 0, 1) := by decide +kernel
theorem dL_law_353 : decode cL_law 353 = .ok (.iconst 0, 1) := by decide +kernel
theorem dL_law_354 : decode cL_law 354 = .ok (.iconst 0, 1) := by decide +kernel
theorem dL_law_355 : decode cL_law 355 = .ok (.invokestatic 115, 3) := by decide +kernel
theorem dL_law_358 : decode cL_law 358 = .ok (.sipush (-200), 3) := by decide +kernel
theorem dL_law_361 : decode cL_law 361 = .ok (.if_icmp .ne 56, 3) := by decide +kernel
theorem dL_law_364 : decode cL_law 364 = .ok (.aload_n 1, 1) := by decide +kernel
theorem dL_law_365 : decode cL_law 365 = .ok (.iconst 0, 1) := by decide +kernel
theorem dL_law_366 : decode cL_law 366 = .ok (.bipush 6, 2) := by decide +kernel
theorem dL_law_368 : decode cL_law 368 = .ok (.iconst 0, 1) := by decide +kernel
theorem dL_law_369 : decode cL_law 369 = .ok (.iconst 0, 1) := by decide +kernel
theorem dL_law_370 : decode cL_law 370 = .ok (.iconst 0, 1) := by decide +kernel
theorem dL_law_371 : decode cL_law 371 = .ok (.invokestatic 93, 3) := by decide +kernel
theorem dL_law_374 : decode cL_law 374 = .ok (.sipush (-300), 3) := by decide +kernel
theorem dL_law_377 : decode cL_law 377 = .ok (.if_icmp .ne 40, 3) := by decide +kernel
theorem dL_law_380 : decode cL_law 380 = .ok (.aload_n 1, 1) := by decide +kernel
theorem dL_law_381 : decode cL_law 381 = .ok (.bipush 6, 2) := by decide +kernel
theorem dL_law_383 : decode cL_law 383 = .ok (.iconst (-1), 1) := by decide +kernel
theorem dL_law_384 : decode cL_law 384 = .ok (.iconst 0, 1) := by decide +kernel
theorem dL_law_385 : decode cL_law 385 = .ok (.iconst 0, 1) := by decide +kernel
theorem dL_law_386 : decode cL_law 386 = .ok (.iconst 0, 1) := by decide +kernel
theorem dL_law_387 : decode cL_law 387 = .ok (.invokestatic 93, 3) := by decide +kernel
theorem dL_law_390 : decode cL_law 390 = .ok (.sipush (-300), 3) := by decide +kernel
theorem dL_law_393 : decode cL_law 393 = .ok (.if_icmp .ne 24, 3) := by decide +kernel
theorem dL_law_396 : decode cL_law 396 = .ok (.aload_n 1, 1) := by decide +kernel
theorem dL_law_397 : decode cL_law 397 = .ok (.bipush 7, 2) := by decide +kernel
theorem dL_law_399 : decode cL_law 399 = .ok (.iconst 0, 1) := by decide +kernel
theorem dL_law_400 : decode cL_law 400 = .ok (.bipush 6, 2) := by decide +kernel
theorem dL_law_402 : decode cL_law 402 = .ok (.iconst 0, 1) := by decide +kernel
theorem dL_law_403 : decode cL_law 403 = .ok (.iconst 0, 1) := by decide +kernel
theorem dL_law_404 : decode cL_law 404 = .ok (.invokestatic 93, 3) := by decide +kernel
theorem dL_law_407 : decode cL_law 407 = .ok (.sipush (-300), 3) := by decide +kernel
theorem dL_law_410 : decode cL_law 410 = .ok (.if_icmp .ne 7, 3) := by decide +kernel
theorem dL_law_413 : decode cL_law 413 = .ok (.iconst 1, 1) := by decide +kernel
theorem dL_law_414 : decode cL_law 414 = .ok (.goto 4, 3) := by decide +kernel
theorem dL_law_417 : decode cL_law 417 = .ok (.iconst 0, 1) := by decide +kernel
theorem dL_law_418 : decode cL_law 418 = .ok (.ireturn, 1) := by decide +kernel
