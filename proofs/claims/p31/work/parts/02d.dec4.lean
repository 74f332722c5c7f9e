theorem dL_acts_482 : decode cL_acts 482 = .ok (.ireturn, 1) := by decide +kernel
theorem dL_acts_483 : decode cL_acts 483 = .ok (.aload_n 0, 1) := by decide +kernel
theorem dL_acts_484 : decode cL_acts 484 = .ok (.iload_n 3, 1) := by decide +kernel
theorem dL_acts_485 : decode cL_acts 485 = .ok (.iconst 2, 1) := by decide +kernel
theorem dL_acts_486 : decode cL_acts 486 = .ok (.invokestatic 113, 3) := by decide +kernel
theorem dL_acts_489 : decode cL_acts 489 = .ok (.ifCond .eq 12, 3) := by decide +kernel
theorem dL_acts_492 : decode cL_acts 492 = .ok (.aload_n 0, 1) := by decide +kernel
theorem dL_acts_493 : decode cL_acts 493 = .ok (.iload_n 3, 1) := by decide +kernel
theorem dL_acts_494 : decode cL_acts 494 = .ok (.iconst 1, 1) := by decide +kernel
theorem dL_acts_495 : decode cL_acts 495 = .ok (.invokestatic 113, 3) := by decide +kernel
theorem dL_acts_498 : decode cL_acts 498 = .ok (.ifCond .ge 8, 3) := by decide +kernel
theorem dL_acts_501 : decode cL_acts 501 = .ok (.ldc 20, 2) := by decide +kernel
theorem dL_acts_503 : decode cL_acts 503 = .ok (.goto 11, 3) := by decide +kernel
theorem dL_acts_506 : decode cL_acts 506 = .ok (.aload_n 0, 1) := by decide +kernel
theorem dL_acts_507 : decode cL_acts 507 = .ok (.iload_n 3, 1) := by decide +kernel
theorem dL_acts_508 : decode cL_acts 508 = .ok (.iconst 0, 1) := by decide +kernel
theorem dL_acts_509 : decode cL_acts 509 = .ok (.iconst 0, 1) := by decide +kernel
theorem dL_acts_510 : decode cL_acts 510 = .ok (.iconst 1, 1) := by decide +kernel
theorem dL_acts_511 : decode cL_acts 511 = .ok (.invokestatic 119, 3) := by decide +kernel
theorem dL_acts_514 : decode cL_acts 514 = .ok (.istore 7, 2) := by decide +kernel
theorem dL_acts_516 : decode cL_acts 516 = .ok (.aload_n 0, 1) := by decide +kernel
theorem dL_acts_517 : decode cL_acts 517 = .ok (.iload_n 3, 1) := by decide +kernel
theorem dL_acts_518 : decode cL_acts 518 = .ok (.invokestatic 147, 3) := by decide +kernel
theorem dL_acts_521 : decode cL_acts 521 = .ok (.iload 7, 2) := by decide +kernel
theorem dL_acts_523 : decode cL_acts 523 = .ok (.if_icmp .ne 17, 3) := by decide +kernel
theorem dL_acts_526 : decode cL_acts 526 = .ok (.aload_n 0, 1) := by decide +kernel
theorem dL_acts_527 : decode cL_acts 527 = .ok (.invokestatic 196, 3) := by decide +kernel
theorem dL_acts_530 : decode cL_acts 530 = .ok (.lload 5, 2) := by decide +kernel
theorem dL_acts_532 : decode cL_acts 532 = .ok (.lcmp, 1) := by decide +kernel
theorem dL_acts_533 : decode cL_acts 533 = .ok (.ifCond .ne 7, 3) := by decide +kernel
theorem dL_acts_536 : decode cL_acts 536 = .ok (.iconst 1, 1) := by decide +kernel
theorem dL_acts_537 : decode cL_acts 537 = .ok (.goto 4, 3) := by decide +kernel
theorem dL_acts_540 : decode cL_acts 540 = .ok (.iconst 0, 1) := by decide +kernel
theorem dL_acts_541 : decode cL_acts 541 = .ok (.ireturn, 1) := by decide +kernel
theorem dL_acts_542 : decode cL_acts 542 = .ok (.aload_n 0, 1) := by decide +kernel
theorem dL_acts_543 : decode cL_acts 543 = .ok (.iload_n 3, 1) := by decide +kernel
theorem dL_acts_544 : decode cL_acts 544 = .ok (.iload 4, 2) := by decide +kernel
theorem dL_acts_546 : decode cL_acts 546 = .ok (.invokestatic 157, 3) := by decide +kernel
theorem dL_acts_549 : decode cL_acts 549 = .ok (.istore 7, 2) := by decide +kernel
theorem dL_acts_551 : decode cL_acts 551 = .ok (.iload 7, 2) := by decide +kernel
theorem dL_acts_553 : decode cL_acts 553 = .ok (.ldc 20, 2) := by decide +kernel
theorem dL_acts_555 : decode cL_acts 555 = .ok (.if_icmp .eq 14, 3) := by decide +kernel
theorem dL_acts_558 : decode cL_acts 558 = .ok (.aload_n 0, 1) := by decide +kernel
theorem dL_acts_559 : decode cL_acts 559 = .ok (.iload_n 3, 1) := by decide +kernel
theorem dL_acts_560 : decode cL_acts 560 = .ok (.iconst 1, 1) := by decide +kernel
theorem dL_acts_561 : decode cL_acts 561 = .ok (.invokestatic 113, 3) := by decide +kernel
theorem dL_acts_564 : decode cL_acts 564 = .ok (.iload 4, 2) := by decide +kernel
theorem dL_acts_566 : decode cL_acts 566 = .ok (.if_icmp .ne 17, 3) := by decide +kernel
theorem dL_acts_569 : decode cL_acts 569 = .ok (.aload_n 0, 1) := by decide +kernel
theorem dL_acts_570 : decode cL_acts 570 = .ok (.invokestatic 196, 3) := by decide +kernel
theorem dL_acts_573 : decode cL_acts 573 = .ok (.lload 5, 2) := by decide +kernel
theorem dL_acts_575 : decode cL_acts 575 = .ok (.lcmp, 1) := by decide +kernel
theorem dL_acts_576 : decode cL_acts 576 = .ok (.ifCond .ne 7, 3) := by decide +kernel
theorem dL_acts_579 : decode cL_acts 579 = .ok (.iconst 1, 1) := by decide +kernel
theorem dL_acts_580 : decode cL_acts 580 = .ok (.goto 4, 3) := by decide +kernel
theorem dL_acts_583 : decode cL_acts 583 = .ok (.iconst 0, 1) := by decide +kernel
theorem dL_acts_584 : decode cL_acts 584 = .ok (.ireturn, 1) := by decide +kernel
theorem dL_acts_585 : decode cL_acts 585 = .ok (.aload_n 0, 1) := by decide +kernel
theorem dL_acts_586 : decode cL_acts 586 = .ok (.iload_n 3, 1) := by decide +kernel
theorem dL_acts_587 : decode cL_acts 587 = .ok (.iload_n 1, 1) := by decide +kernel
theorem dL_acts_588 : decode cL_acts 588 = .ok (.bipush 7, 2) := by decide +kernel
theorem dL_acts_590 : decode cL_acts 590 = .ok (.ishr, 1) := by decide +kernel
theorem dL_acts_591 : decode cL_acts 591 = .ok (.bipush 30, 2) := by decide +kernel
theorem dL_acts_593 : decode cL_acts 593 = .ok (.invokestatic 186, 3) := by decide +kernel
theorem dL_acts_596 : decode cL_acts 596 = .ok (.invokestatic 138, 3) := by decide +kernel
theorem dL_acts_599 : decode cL_acts 599 = .ok (.istore 7, 2) := by decide +kernel
theorem dL_acts_601 : decode cL_acts 601 = .ok (.iload 7, 2) := by decide +kernel
theorem dL_acts_603 : decode cL_acts 603 = .ok (.ldc 20, 2) := by decide +kernel
theorem dL_acts_605 : decode cL_acts 605 = .ok (.if_icmp .eq 41, 3) := by decide +kernel
theorem dL_acts_608 : decode cL_acts 608 = .ok (.iload 7, 2) := by decide +kernel
theorem dL_acts_610 : decode cL_acts 610 = .ok (.aload_n 0, 1) := by decide +kernel
theorem dL_acts_611 : decode cL_acts 611 = .ok (.iload_n 3, 1) := by decide +kernel
theorem dL_acts_612 : decode cL_acts 612 = .ok (.bipush 7, 2) := by decide +kernel
theorem dL_acts_614 : decode cL_acts 614 = .ok (.invokestatic 113, 3) := by decide +kernel
theorem dL_acts_617 : decode cL_acts 617 = .ok (.if_icmp .ne 33, 3) := by decide +kernel
theorem dL_acts_620 : decode cL_acts 620 = .ok (.aload_n 0, 1) := by decide +kernel
theorem dL_acts_621 : decode cL_acts 621 = .ok (.iload_n 3, 1) := by decide +kernel
theorem dL_acts_622 : decode cL_acts 622 = .ok (.iload_n 1, 1) := by decide +kernel
theorem dL_acts_623 : decode cL_acts 623 = .ok (.bipush 7, 2) := by decide +kernel
theorem dL_acts_625 : decode cL_acts 625 = .ok (.ishr, 1) := by decide +kernel
theorem dL_acts_626 : decode cL_acts 626 = .ok (.bipush 30, 2) := by decide +kernel
theorem dL_acts_628 : decode cL_acts 628 = .ok (.invokestatic 186, 3) := by decide +kernel
theorem dL_acts_631 : decode cL_acts 631 = .ok (.invokestatic 122, 3) := by decide +kernel
theorem dL_acts_634 : decode cL_acts 634 = .ok (.iload_n 1, 1) := by decide +kernel
theorem dL_acts_635 : decode cL_acts 635 = .ok (.bipush 7, 2) := by decide +kernel
theorem dL_acts_637 : decode cL_acts 637 = .ok (.ishr, 1) := by decide +kernel
theorem dL_acts_638 : decode cL_acts 638 = .ok (.bipush 30, 2) := by decide +kernel
theorem dL_acts_640 : decode cL_acts 640 = .ok (.invokestatic 186, 3) := by decide +kernel
theorem dL_acts_643 : decode cL_acts 643 = .ok (.if_icmp .ne 7, 3) := by decide +kernel
theorem dL_acts_646 : decode cL_acts 646 = .ok (.iconst 1, 1) := by decide +kernel
theorem dL_acts_647 : decode cL_acts 647 = .ok (.goto 4, 3) := by decide +kernel
theorem dL_acts_650 : decode cL_acts 650 = .ok (.iconst 0, 1) := by decide +kernel
theorem dL_acts_651 : decode cL_acts 651 = .ok (.ireturn, 1) := by decide +kernel
theorem dL_acts_652 : decode cL_acts 652 = .ok (.iload_n 1, 1) := by decide +kernel
theorem dL_acts_653 : decode cL_acts 653 = .ok (.bipush 7, 2) := by decide +kernel
theorem dL_acts_655 : decode cL_acts 655 = .ok (.ishr, 1) := by decide +kernel
theorem dL_acts_656 : decode cL_acts 656 = .ok (.bipush 60, 2) := by decide +kernel
theorem dL_acts_658 : decode cL_acts 658 = .ok (.invokestatic 186, 3) := by decide +kernel
theorem dL_acts_661 : decode cL_acts 661 = .ok (.bipush 30, 2) := by decide +kernel
theorem dL_acts_663 : decode cL_acts 663 = .ok (.isub, 1) := by decide +kernel
theorem dL_acts_664 : decode cL_acts 664 = .ok (.istore 7, 2) := by decide +kernel
theorem dL_acts_666 : decode cL_acts 666 = .ok (.aload_n 0, 1) := by decide +kernel
theorem dL_acts_667 : decode cL_acts 667 = .ok (.iload_n 3, 1) := by decide +kernel
theorem dL_acts_668 : decode cL_acts 668 = .ok (.iload_n 1, 1) := by decide +kernel
theorem dL_acts_669 : decode cL_acts 669 = .ok (.iconst 5, 1) := by decide +kernel
theorem dL_acts_670 : decode cL_acts 670 = .ok (.ishr, 1) := by decide +kernel
theorem dL_acts_671 : decode cL_acts 671 = .ok (.iconst 3, 1) := by decide +kernel
theorem dL_acts_672 : decode cL_acts 672 = .ok (.invokestatic 186, 3) := by decide +kernel
theorem dL_acts_675 : decode cL_acts 675 = .ok (.iconst 1, 1) := by decide +kernel
theorem dL_acts_676 : decode cL_acts 676 = .ok (.invokestatic 116, 3) := by decide +kernel
theorem dL_acts_679 : decode cL_acts 679 = .ok (.istore 8, 2) := by decide +kernel
theorem dL_acts_681 : decode cL_acts 681 = .ok (.aload_n 0, 1) := by decide +kernel
theorem dL_acts_682 : decode cL_acts 682 = .ok (.iload_n 3, 1) := by decide +kernel
theorem dL_acts_683 : decode cL_acts 683 = .ok (.iload_n 1, 1) := by decide +kernel
theorem dL_acts_684 : decode cL_acts 684 = .ok (.iconst 5, 1) := by decide +kernel
theorem dL_acts_685 : decode cL_acts 685 = .ok (.ishr, 1) := by decide +kernel
theorem dL_acts_686 : decode cL_acts 686 = .ok (.iconst 3, 1) := by decide +kernel
theorem dL_acts_687 : decode cL_acts 687 = .ok (.invokestatic 186, 3) := by decide +kernel
theorem dL_acts_690 : decode cL_acts 690 = .ok (.iload 7, 2) := by decide +kernel
theorem dL_acts_692 : decode cL_acts 692 = .ok (.invokestatic 154, 3) := by decide +kernel
theorem dL_acts_695 : decode cL_acts 695 = .ok (.istore 9, 2) := by decide +kernel
theorem dL_acts_697 : decode cL_acts 697 = .ok (.iload 9, 2) := by decide +kernel
theorem dL_acts_699 : decode cL_acts 699 = .ok (.iload 8, 2) := by decide +kernel
theorem dL_acts_701 : decode cL_acts 701 = .ok (.iload 7, 2) := by decide +kernel
theorem dL_acts_703 : decode cL_acts 703 = .ok (.iadd, 1) := by decide +kernel
theorem dL_acts_704 : decode cL_acts 704 = .ok (.ifCond .ge 8, 3) := by decide +kernel
theorem dL_acts_707 : decode cL_acts 707 = .ok (.ldc 20, 2) := by decide +kernel
theorem dL_acts_709 : decode cL_acts 709 = .ok (.goto 8, 3) := by decide +kernel
theorem dL_acts_712 : decode cL_acts 712 = .ok (.iload 8, 2) := by decide +kernel
theorem dL_acts_714 : decode cL_acts 714 = .ok (.iload 7, 2) := by decide +kernel
theorem dL_acts_716 : decode cL_acts 716 = .ok (.iadd, 1) := by decide +kernel
theorem dL_acts_717 : decode cL_acts 717 = .ok (.if_icmp .ne 31, 3) := by decide +kernel
theorem dL_acts_720 : decode cL_acts 720 = .ok (.aload_n 0, 1) := by decide +kernel
theorem dL_acts_721 : decode cL_acts 721 = .ok (.invokestatic 196, 3) := by decide +kernel
theorem dL_acts_724 : decode cL_acts 724 = .ok (.iload 9, 2) := by decide +kernel
theorem dL_acts_726 : decode cL_acts 726 = .ok (.ifCond .ge 8, 3) := by decide +kernel
theorem dL_acts_729 : decode cL_acts 729 = .ok (.lload 5, 2) := by decide +kernel
theorem dL_acts_731 : decode cL_acts 731 = .ok (.goto 9, 3) := by decide +kernel
theorem dL_acts_734 : decode cL_acts 734 = .ok (.lload 5, 2) := by decide +kernel
theorem dL_acts_736 : decode cL_acts 736 = .ok (.iload 7, 2) := by decide +kernel
theorem dL_acts_738 : decode cL_acts 738 = .ok (.i2l, 1) := by decide +kernel
theorem dL_acts_739 : decode cL_acts 739 = .ok (.ladd, 1) := by decide +kernel
theorem dL_acts_740 : decode cL_acts 740 = .ok (.lcmp, 1) := by decide +kernel
theorem dL_acts_741 : decode cL_acts 741 = .ok (.ifCond .ne 7, 3) := by decide +kernel
theorem dL_acts_744 : decode cL_acts 744 = .ok (.iconst 1, 1) := by decide +kernel
theorem dL_acts_745 : decode cL_acts 745 = .ok (.goto 4, 3) := by decide +kernel
theorem dL_acts_748 : decode cL_acts 748 = .ok (.iconst 0, 1) := by decide +kernel
theorem dL_acts_749 : decode cL_acts 749 = .ok (.ireturn, 1) := by decide +kernel
theorem dL_acts_750 : decode cL_acts 750 = .ok (.aload_n 0, 1) := by decide +kernel
theorem dL_acts_751 : decode cL_acts 751 = .ok (.iload_n 3, 1) := by decide +kernel
theorem dL_acts_752 : decode cL_acts 752 = .ok (.iconst 1, 1) := by decide +kernel
theorem dL_acts_753 : decode cL_acts 753 = .ok (.invokestatic 113, 3) := by decide +kernel
theorem dL_acts_756 : decode cL_acts 756 = .ok (.istore 7, 2) := by decide +kernel
theorem dL_acts_758 : decode cL_acts 758 = .ok (.aload_n 0, 1) := by decide +kernel
theorem dL_acts_759 : decode cL_acts 759 = .ok (.iload_n 3, 1) := by decide +kernel
theorem dL_acts_760 : decode cL_acts 760 = .ok (.invokestatic 160, 3) := by decide +kernel
theorem dL_acts_763 : decode cL_acts 763 = .ok (.iload 7, 2) := by decide +kernel
theorem dL_acts_765 : decode cL_acts 765 = .ok (.ifCond .ge 8, 3) := by decide +kernel
theorem dL_acts_768 : decode cL_acts 768 = .ok (.ldc 20, 2) := by decide +kernel
theorem dL_acts_770 : decode cL_acts 770 = .ok (.goto 5, 3) := by decide +kernel
theorem dL_acts_773 : decode cL_acts 773 = .ok (.iload 7, 2) := by decide +kernel
theorem dL_acts_775 : decode cL_acts 775 = .ok (.if_icmp .ne 27, 3) := by decide +kernel
theorem dL_acts_778 : decode cL_acts 778 = .ok (.aload_n 0, 1) := by decide +kernel
theorem dL_acts_779 : decode cL_acts 779 = .ok (.iload_n 3, 1) := by decide +kernel
theorem dL_acts_780 : decode cL_acts 780 = .ok (.iconst 1, 1) := by decide +kernel
theorem dL_acts_781 : decode cL_acts 781 = .ok (.invokestatic 113, 3) := by decide +kernel
theorem dL_acts_784 : decode cL_acts 784 = .ok (.iconst (-1), 1) := by decide +kernel
theorem dL_acts_785 : decode cL_acts 785 = .ok (.if_icmp .ne 17, 3) := by decide +kernel
theorem dL_acts_788 : decode cL_acts 788 = .ok (.aload_n 0, 1) := by decide +kernel
theorem dL_acts_789 : decode cL_acts 789 = .ok (.invokestatic 196, 3) := by decide +kernel
theorem dL_acts_792 : decode cL_acts 792 = .ok (.lload 5, 2) := by decide +kernel
theorem dL_acts_794 : decode cL_acts 794 = .ok (.lcmp, 1) := by decide +kernel
theorem dL_acts_795 : decode cL_acts 795 = .ok (.ifCond .ne 7, 3) := by decide +kernel
theorem dL_acts_798 : decode cL_acts 798 = .ok (.iconst 1, 1) := by decide +kernel
theorem dL_acts_799 : decode cL_acts 799 = .ok (.goto 4, 3) := by decide +kernel
theorem dL_acts_802 : decode cL_acts 802 = .ok (.iconst 0, 1) := by decide +kernel
theorem dL_acts_803 : decode cL_acts 803 = .ok (.ireturn, 1) := by decide +kernel
theorem dL_begins_0 : decode cL_begins 0 = .ok (.iconst 1, 1) := by decide +kernel
theorem dL_begins_1 : decode cL_begins 1 = .ok (.istore_n 2, 1) := by decide +kernel
theorem dL_begins_2 : decode cL_begins 2 = .ok (.iconst 0, 1) := by decide +kernel
theorem dL_begins_3 : decode cL_begins 3 = .ok (.istore_n 3, 1) := by decide +kernel
theorem dL_begins_4 : decode cL_begins 4 = .ok (.iload_n 3, 1) := by decide +kernel
theorem dL_begins_5 : decode cL_begins 5 = .ok (.iconst 3, 1) := by decide +kernel
theorem dL_begins_6 : decode cL_begins 6 = .ok (.if_icmp .ge 108, 3) := by decide +kernel
theorem dL_begins_9 : decode cL_begins 9 = .ok (.iload_n 2, 1) := by decide +kernel
theorem dL_begins_10 : decode cL_begins 10 = .ok (.ifCond .eq 104, 3) := by decide +kernel
theorem dL_begins_13 : decode cL_begins 13 = .ok (.aload_n 1, 1) := by decide +kernel
theorem dL_begins_14 : decode cL_begins 14 = .ok (.bipush 80, 2) := by decide +kernel
theorem dL_begins_16 : decode cL_begins 16 = .ok (.iload_n 3, 1) := by decide +kernel
theorem dL_begins_17 : decode cL_begins 17 = .ok (.iadd, 1) := by decide +kernel
theorem dL_begins_18 : decode cL_begins 18 = .ok (.invokestatic 202, 3) := by decide +kernel
theorem dL_begins_21 : decode cL_begins 21 = .ok (.istore 4, 2) := by decide +kernel
theorem dL_begins_23 : decode cL_begins 23 = .ok (.aload_n 0, 1) := by decide +kernel
theorem dL_begins_24 : decode cL_begins 24 = .ok (.iload 4, 2) := by decide +kernel
theorem dL_begins_26 : decode cL_begins 26 = .ok (.bipush 20, 2) := by decide +kernel
theorem dL_begins_28 : decode cL_begins 28 = .ok (.invokestatic 186, 3) := by decide +kernel
theorem dL_begins_31 : decode cL_begins 31 = .ok (.iload 4, 2) := by decide +kernel
theorem dL_begins_33 : decode cL_begins 33 = .ok (.iconst 5, 1) := by decide +kernel
theorem dL_begins_34 : decode cL_begins 34 = .ok (.ishr, 1) := by decide +kernel
theorem dL_begins_35 : decode cL_begins 35 = .ok (.bipush 20, 2) := by decide +kernel
theorem dL_begins_37 : decode cL_begins 37 = .ok (.invokestatic 186, 3) := by decide +kernel
theorem dL_begins_40 : decode cL_begins 40 = .ok (.iload 4, 2) := by decide +kernel
theorem dL_begins_42 : decode cL_begins 42 = .ok (.bipush 10, 2) := by decide +kernel
theorem dL_begins_44 : decode cL_begins 44 = .ok (.ishr, 1) := by decide +kernel
theorem dL_begins_45 : decode cL_begins 45 = .ok (.bipush 20, 2) := by decide +kernel
theorem dL_begins_47 : decode cL_begins 47 = .ok (.invokestatic 186, 3) := by decide +kernel
theorem dL_begins_50 : decode cL_begins 50 = .ok (.invokestatic 129, 3) := by decide +kernel
theorem dL_begins_53 : decode cL_begins 53 = .ok (.iload_n 3, 1) := by decide +kernel
theorem dL_begins_54 : decode cL_begins 54 = .ok (.if_icmp .ne 52, 3) := by decide +kernel
theorem dL_begins_57 : decode cL_begins 57 = .ok (.aload_n 0, 1) := by decide +kernel
theorem dL_begins_58 : decode cL_begins 58 = .ok (.iconst 1, 1) := by decide +kernel
theorem dL_begins_59 : decode cL_begins 59 = .ok (.iload 4, 2) := by decide +kernel
theorem dL_begins_61 : decode cL_begins 61 = .ok (.iconst 3, 1) := by decide +kernel
theorem dL_begins_62 : decode cL_begins 62 = .ok (.ishr, 1) := by decide +kernel
theorem dL_begins_63 : decode cL_begins 63 = .ok (.iconst 3, 1) := by decide +kernel
theorem dL_begins_64 : decode cL_begins 64 = .ok (.invokestatic 186, 3) := by decide +kernel
theorem dL_begins_67 : decode cL_begins 67 = .ok (.iadd, 1) := by decide +kernel
theorem dL_begins_68 : decode cL_begins 68 = .ok (.iload 4, 2) := by decide +kernel
theorem dL_begins_70 : decode cL_begins 70 = .ok (.bipush 7, 2) := by decide +kernel
theorem dL_begins_72 : decode cL_begins 72 = .ok (.ishr, 1) := by decide +kernel
theorem dL_begins_73 : decode cL_begins 73 = .ok (.iconst 4, 1) := by decide +kernel
theorem dL_begins_74 : decode cL_begins 74 = .ok (.invokestatic 186, 3) := by decide +kernel
theorem dL_begins_77 : decode cL_begins 77 = .ok (.ifCond .ne 16, 3) := by decide +kernel
theorem dL_begins_80 : decode cL_begins 80 = .ok (.iload 4, 2) := by decide +kernel
theorem dL_begins_82 : decode cL_begins 82 = .ok (.bipush 9, 2) := by decide +kernel
theorem dL_begins_84 : decode cL_begins 84 = .ok (.ishr, 1) := by decide +kernel
theorem dL_begins_85 : decode cL_begins 85 = .ok (.bipush 32, 2) := by decide +kernel
theorem dL_begins_87 : decode cL_begins 87 = .ok (.invokestatic 186, 3) := by decide +kernel
theorem dL_begins_90 : decode cL_begins 90 = .ok (.goto 5, 3) := by decide +kernel
theorem dL_begins_93 : decode cL_begins 93 = .ok (.bipush 7, 2) := by decide +kernel
theorem dL_begins_95 : decode cL_begins 95 = .ok (.invokestatic 132, 3) := by decide +kernel
theorem dL_begins_98 : decode cL_begins 98 = .ok (.iload_n 3, 1) := by decide +kernel
theorem dL_begins_99 : decode cL_begins 99 = .ok (.if_icmp .ne 7, 3) := by decide +kernel
theorem dL_begins_102 : decode cL_begins 102 = .ok (.iconst 1, 1) := by decide +kernel
theorem dL_begins_103 : decode cL_begins 103 = .ok (.goto 4, 3) := by decide +kernel
theorem dL_begins_106 : decode cL_begins 106 = .ok (.iconst 0, 1) := by decide +kernel
theorem dL_begins_107 : decode cL_begins 107 = .ok (.istore_n 2, 1) := by decide +kernel
theorem dL_begins_108 : decode cL_begins 108 = .ok (.iinc 3 1, 3) := by decide +kernel
theorem dL_begins_111 : decode cL_begins 111 = .ok (.goto (-107), 3) := by decide +kernel
theorem dL_begins_114 : decode cL_begins 114 = .ok (.iconst 0, 1) := by decide +kernel
theorem dL_begins_115 : decode cL_begins 115 = .ok (.istore_n 3, 1) := by decide +kernel
theorem dL_begins_116 : decode cL_begins 116 = .ok (.iload_n 3, 1) := by decide +kernel
theorem dL_begins_117 : decode cL_begins 117 = .ok (.iconst 5, 1) := by decide +kernel
theorem dL_begins_118 : decode cL_begins 118 = .ok (.if_icmp .ge 87, 3) := by decide +kernel
theorem dL_begins_121 : decode cL_begins 121 = .ok (.iload_n 2, 1) := by decide +kernel
theorem dL_begins_122 : decode cL_begins 122 = .ok (.ifCond .eq 83, 3) := by decide +kernel
theorem dL_begins_125 : decode cL_begins 125 = .ok (.aload_n 1, 1) := by decide +kernel
theorem dL_begins_126 : decode cL_begins 126 = .ok (.bipush 84, 2) := by decide +kernel
theorem dL_begins_128 : decode cL_begins 128 = .ok (.iload_n 3, 1) := by decide +kernel
theorem dL_begins_129 : decode cL_begins 129 = .ok (.iadd, 1) := by decide +kernel
theorem dL_begins_130 : decode cL_begins 130 = .ok (.invokestatic 202, 3) := by decide +kernel
theorem dL_begins_133 : decode cL_begins 133 = .ok (.istore 4, 2) := by decide +kernel
theorem dL_begins_135 : decode cL_begins 135 = .ok (.aload_n 0, 1) := by decide +kernel
theorem dL_begins_136 : decode cL_begins 136 = .ok (.iload 4, 2) := by decide +kernel
theorem dL_begins_138 : decode cL_begins 138 = .ok (.iconst 3, 1) := by decide +kernel
theorem dL_begins_139 : decode cL_begins 139 = .ok (.invokestatic 186, 3) := by decide +kernel
theorem dL_begins_142 : decode cL_begins 142 = .ok (.iload 4, 2) := by decide +kernel
theorem dL_begins_144 : decode cL_begins 144 = .ok (.iconst 3, 1) := by decide +kernel
theorem dL_begins_145 : decode cL_begins 145 = .ok (.ishr, 1) := by decide +kernel
theorem dL_begins_146 : decode cL_begins 146 = .ok (.iconst 4, 1) := by decide +kernel
theorem dL_begins_147 : decode cL_begins 147 = .ok (.invokestatic 186, 3) := by decide +kernel
theorem dL_begins_150 : decode cL_begins 150 = .ok (.iconst 1, 1) := by decide +kernel
theorem dL_begins_151 : decode cL_begins 151 = .ok (.isub, 1) := by decide +kernel
theorem dL_begins_152 : decode cL_begins 152 = .ok (.invokestatic 135, 3) := by decide +kernel
theorem dL_begins_155 : decode cL_begins 155 = .ok (.istore 5, 2) := by decide +kernel
theorem dL_begins_157 : decode cL_begins 157 = .ok (.iload 5, 2) := by decide +kernel
theorem dL_begins_159 : decode cL_begins 159 = .ok (.ldc 20, 2) := by decide +kernel
theorem dL_begins_161 : decode cL_begins 161 = .ok (.if_icmp .ne 26, 3) := by decide +kernel
theorem dL_begins_164 : decode cL_begins 164 = .ok (.aload_n 0, 1) := by decide +kernel
theorem dL_begins_165 : decode cL_begins 165 = .ok (.iload 4, 2) := by decide +kernel
theorem dL_begins_167 : decode cL_begins 167 = .ok (.iconst 3, 1) := by decide +kernel
theorem dL_begins_168 : decode cL_begins 168 = .ok (.invokestatic 186, 3) := by decide +kernel
theorem dL_begins_171 : decode cL_begins 171 = .ok (.iconst (-1), 1) := by decide +kernel
theorem dL_begins_172 : decode cL_begins 172 = .ok (.invokestatic 135, 3) := by decide +kernel
theorem dL_begins_175 : decode cL_begins 175 = .ok (.iload_n 3, 1) := by decide +kernel
theorem dL_begins_176 : decode cL_begins 176 = .ok (.if_icmp .ne 7, 3) := by decide +kernel
theorem dL_begins_179 : decode cL_begins 179 = .ok (.iconst 1, 1) := by decide +kernel
theorem dL_begins_180 : decode cL_begins 180 = .ok (.goto 18, 3) := by decide +kernel
theorem dL_begins_183 : decode cL_begins 183 = .ok (.iconst 0, 1) := by decide +kernel
theorem dL_begins_184 : decode cL_begins 184 = .ok (.goto 14, 3) := by decide +kernel
theorem dL_begins_187 : decode cL_begins 187 = .ok (.iload 5, 2) := by decide +kernel
theorem dL_begins_189 : decode cL_begins 189 = .ok (.iload_n 3, 1) := by decide +kernel
theorem dL_begins_190 : decode cL_begins 190 = .ok (.if_icmp .ne 7, 3) := by decide +kernel
theorem dL_begins_193 : decode cL_begins 193 = .ok (.iconst 1, 1) := by decide +kernel
theorem dL_begins_194 : decode cL_begins 194 = .ok (.goto 4, 3) := by decide +kernel
theorem dL_begins_197 : decode cL_begins 197 = .ok (.iconst 0, 1) := by decide +kernel
theorem dL_begins_198 : decode cL_begins 198 = .ok (.istore_n 2, 1) := by decide +kernel
theorem dL_begins_199 : decode cL_begins 199 = .ok (.iinc 3 1, 3) := by decide +kernel
theorem dL_begins_202 : decode cL_begins 202 = .ok (.goto (-86), 3) := by decide +kernel
theorem dL_begins_205 : decode cL_begins 205 = .ok (.iload_n 2, 1) := by decide +kernel
theorem dL_begins_206 : decode cL_begins 206 = .ok (.ireturn, 1) := by decide +kernel
theorem dL_law_0 : decode cL_law 0 = .ok (.new 10, 3) := by decide +kernel
theorem dL_law_3 : decode cL_law 3 = .ok (.dup, 1) := by decide +kernel
theorem dL_law_4 : decode cL_law 4 = .ok (.invokespecial 206, 3) := by decide +kernel
theorem dL_law_7 : decode cL_law 7 = .ok (.astore_n 1, 1) := by decide +kernel
theorem dL_law_8 : decode cL_law 8 = .ok (.aload_n 1, 1) := by decide +kernel
theorem dL_law_9 : decode cL_law 9 = .ok (.invokestatic 192, 3) := by decide +kernel
theorem dL_law_12 : decode cL_law 12 = .ok (.ldc 20, 2) := by decide +kernel
theorem dL_law_14 : decode cL_law 14 = .ok (.if_icmp .ne 36, 3) := by decide +kernel
theorem dL_law_17 : decode cL_law 17 = .ok (.aload_n 1, 1) := by decide +kernel
theorem dL_law_18 : decode cL_law 18 = .ok (.invokestatic 207, 3) := by decide +kernel
theorem dL_law_21 : decode cL_law 21 = .ok (.ifCond .eq 29, 3) := by decide +kernel
theorem dL_law_24 : decode cL_law 24 = .ok (.aload_n 1, 1) := by decide +kernel
theorem dL_law_25 : decode cL_law 25 = .ok (.invokestatic 211, 3) := by decide +kernel
theorem dL_law_28 : decode cL_law 28 = .ok (.ifCond .eq 22, 3) := by decide +kernel
theorem dL_law_31 : decode cL_law 31 = .ok (.aload_n 1, 1) := by decide +kernel
theorem dL_law_32 : decode cL_law 32 = .ok (.aload_n 0, 1) := by decide +kernel
theorem dL_law_33 : decode cL_law 33 = .ok (.invokestatic 214, 3) := by decide +kernel
theorem dL_law_36 : decode cL_law 36 = .ok (.ifCond .eq 14, 3) := by decide +kernel
theorem dL_law_39 : decode cL_law 39 = .ok (.aload_n 1, 1) := by decide +kernel
theorem dL_law_40 : decode cL_law 40 = .ok (.invokestatic 211, 3) := by decide +kernel
theorem dL_law_43 : decode cL_law 43 = .ok (.ifCond .eq 7, 3) := by decide +kernel
theorem dL_law_46 : decode cL_law 46 = .ok (.iconst 1, 1) := by decide +kernel
theorem dL_law_47 : decode cL_law 47 = .ok (.goto 4, 3) := by decide +kernel
theorem dL_law_50 : decode cL_law 50 = .ok (.iconst 0, 1) := by decide +kernel
theorem dL_law_51 : decode cL_law 51 = .ok (.istore_n 2, 1) := by decide +kernel
theorem dL_law_52 : decode cL_law 52 = .ok (.iconst 0, 1) := by decide +kernel
theorem dL_law_53 : decode cL_law 53 = .ok (.istore_n 3, 1) := by decide +kernel
theorem dL_law_54 : decode cL_law 54 = .ok (.iload_n 3, 1) := by decide +kernel
theorem dL_law_55 : decode cL_law 55 = .ok (.bipush 36, 2) := by decide +kernel
theorem dL_law_57 : decode cL_law 57 = .ok (.if_icmp .ge 195, 3) := by decide +kernel
theorem dL_law_60 : decode cL_law 60 = .ok (.iload_n 2, 1) := by decide +kernel
theorem dL_law_61 : decode cL_law 61 = .ok (.ifCond .eq 191, 3) := by decide +kernel
theorem dL_law_64 : decode cL_law 64 = .ok (.aload_n 0, 1) := by decide +kernel
theorem dL_law_65 : decode cL_law 65 = .ok (.iconst 2, 1) := by decide +kernel
theorem dL_law_66 : decode cL_law 66 = .ok (.iload_n 3, 1) := by decide +kernel
theorem dL_law_67 : decode cL_law 67 = .ok (.imul, 1) := by decide +kernel
theorem dL_law_68 : decode cL_law 68 = .ok (.invokestatic 202, 3) := by decide +kernel
theorem dL_law_71 : decode cL_law 71 = .ok (.istore 4, 2) := by decide +kernel
theorem dL_law_73 : decode cL_law 73 = .ok (.aload_n 0, 1) := by decide +kernel
theorem dL_law_74 : decode cL_law 74 = .ok (.iconst 2, 1) := by decide +kernel
theorem dL_law_75 : decode cL_law 75 = .ok (.iload_n 3, 1) := by decide +kernel
theorem dL_law_76 : decode cL_law 76 = .ok (.imul, 1) := by decide +kernel
theorem dL_law_77 : decode cL_law 77 = .ok (.iconst 1, 1) := by decide +kernel
theorem dL_law_78 : decode cL_law 78 = .ok (.iadd, 1) := by decide +kernel
theorem dL_law_79 : decode cL_law 79 = .ok (.invokestatic 202, 3) := by decide +kernel
theorem dL_law_82 : decode cL_law 82 = .ok (.istore 5, 2) := by decide +kernel
theorem dL_law_84 : decode cL_law 84 = .ok (.aload_n 1, 1) := by decide +kernel
theorem dL_law_85 : decode cL_law 85 = .ok (.iload 4, 2) := by decide +kernel
theorem dL_law_87 : decode cL_law 87 = .ok (.iconst 3, 1) := by decide +kernel
theorem dL_law_88 : decode cL_law 88 = .ok (.ishr, 1) := by decide +kernel
theorem dL_law_89 : decode cL_law 89 = .ok (.iload 5, 2) := by decide +kernel
theorem dL_law_91 : decode cL_law 91 = .ok (.invokestatic 218, 3) := by decide +kernel
theorem dL_law_94 : decode cL_law 94 = .ok (.ifCond .eq 85, 3) := by decide +kernel
theorem dL_law_97 : decode cL_law 97 = .ok (.aload_n 1, 1) := by decide +kernel
theorem dL_law_98 : decode cL_law 98 = .ok (.invokestatic 211, 3) := by decide +kernel
theorem dL_law_101 : decode cL_law 101 = .ok (.ifCond .eq 78, 3) := by decide +kernel
theorem dL_law_104 : decode cL_law 104 = .ok (.iload_n 3, 1) := by decide +kernel
theorem dL_law_105 : decode cL_law 105 = .ok (.bipush 7, 2) := by decide +kernel
theorem dL_law_107 : decode cL_law 107 = .ok (.irem, 1) := by decide +kernel
theorem dL_law_108 : decode cL_law 108 = .ok (.iconst 5, 1) := by decide +kernel
theorem dL_law_109 : decode cL_law 109 = .ok (.if_icmp .ne 10, 3) := by decide +kernel
theorem dL_law_112 : decode cL_law 112 = .ok (.aload_n 1, 1) := by decide +kernel
theorem dL_law_113 : decode cL_law 113 = .ok (.invokestatic 207, 3) := by decide +kernel
theorem dL_law_116 : decode cL_law 116 = .ok (.ifCond .eq 63, 3) := by decide +kernel
theorem dL_law_119 : decode cL_law 119 = .ok (.aload_n 1, 1) := by decide +kernel
theorem dL_law_120 : decode cL_law 120 = .ok (.iload 5, 2) := by decide +kernel
theorem dL_law_122 : decode cL_law 122 = .ok (.iconst 4, 1) := by decide +kernel
theorem dL_law_123 : decode cL_law 123 = .ok (.ishr, 1) := by decide +kernel
theorem dL_law_124 : decode cL_law 124 = .ok (.iconst 5, 1) := by decide +kernel
theorem dL_law_125 : decode cL_law 125 = .ok (.invokestatic 186, 3) := by decide +kernel
theorem dL_law_128 : decode cL_law 128 = .ok (.iload 4, 2) := by decide +kernel
theorem dL_law_130 : decode cL_law 130 = .ok (.invokestatic 222, 3) := by decide +kernel
theorem dL_law_133 : decode cL_law 133 = .ok (.ifCond .eq 46, 3) := by decide +kernel
theorem dL_law_136 : decode cL_law 136 = .ok (.iload_n 3, 1) := by decide +kernel
theorem dL_law_137 : decode cL_law 137 = .ok (.iconst 3, 1) := by decide +kernel
theorem dL_law_138 : decode cL_law 138 = .ok (.irem, 1) := by decide +kernel
theorem dL_law_139 : decode cL_law 139 = .ok (.iconst 1, 1) := by decide +kernel
theorem dL_law_140 : decode cL_law 140 = .ok (.if_icmp .ne 35, 3) := by decide +kernel
theorem dL_law_143 : decode cL_law 143 = .ok (.aload_n 1, 1) := by decide +kernel
theorem dL_law_144 : decode cL_law 144 = .ok (.iload 5, 2) := by decide +kernel
theorem dL_law_146 : decode cL_law 146 = .ok (.iconst 5, 1) := by decide +kernel
theorem dL_law_147 : decode cL_law 147 = .ok (.ishr, 1) := by decide +kernel
theorem dL_law_148 : decode cL_law 148 = .ok (.iconst 5, 1) := by decide +kernel
theorem dL_law_149 : decode cL_law 149 = .ok (.invokestatic 186, 3) := by decide +kernel
theorem dL_law_152 : decode cL_law 152 = .ok (.iload 5, 2) := by decide +kernel
theorem dL_law_154 : decode cL_law 154 = .ok (.bipush 8, 2) := by decide +kernel
theorem dL_law_156 : decode cL_law 156 = .ok (.ishr, 1) := by decide +kernel
theorem dL_law_157 : decode cL_law 157 = .ok (.iconst 5, 1) := by decide +kernel
theorem dL_law_158 : decode cL_law 158 = .ok (.invokestatic 186, 3) := by decide +kernel
theorem dL_law_161 : decode cL_law 161 = .ok (.iload 4, 2) := by decide +kernel
theorem dL_law_163 : decode cL_law 163 = .ok (.iconst 5, 1) := by decide +kernel
theorem dL_law_164 : decode cL_law 164 = .ok (.ishr, 1) := by decide +kernel
theorem dL_law_165 : decode cL_law 165 = .ok (.iconst 3, 1) := by decide +kernel
theorem dL_law_166 : decode cL_law 166 = .ok (.invokestatic 186, 3) := by decide +kernel
theorem dL_law_169 : decode cL_law 169 = .ok (.invokestatic 225, 3) := by decide +kernel
theorem dL_law_172 : decode cL_law 172 = .ok (.ifCond .eq 7, 3) := by decide +kernel
theorem dL_law_175 : decode cL_law 175 = .ok (.iconst 1, 1) := by decide +kernel
theorem dL_law_176 : decode cL_law 176 = .ok (.goto 4, 3) := by decide +kernel
theorem dL_law_179 : decode cL_law 179 = .ok (.iconst 0, 1) := by decide +kernel
theorem dL_law_180 : decode cL_law 180 = .ok (.istore_n 2, 1) := by decide +kernel
theorem dL_law_181 : decode cL_law 181 = .ok (.iload_n 2, 1) := by decide +kernel
theorem dL_law_182 : decode cL_law 182 = .ok (.ifCond .eq 64, 3) := by decide +kernel
theorem dL_law_185 : decode cL_law 185 = .ok (.iload_n 3, 1) := by decide +kernel
theorem dL_law_186 : decode cL_law 186 = .ok (.iconst 5, 1) := by decide +kernel
theorem dL_law_187 : decode cL_law 187 = .ok (.irem, 1) := by decide +kernel
theorem dL_law_188 : decode cL_law 188 = .ok (.iconst 4, 1) := by decide +kernel
theorem dL_law_189 : decode cL_law 189 = .ok (.if_icmp .ne 57, 3) := by decide +kernel
theorem dL_law_192 : decode cL_law 192 = .ok (.aload_n 1, 1) := by decide +kernel
theorem dL_law_193 : decode cL_law 193 = .ok (.invokestatic 125, 3) := by decide +kernel
theorem dL_law_196 : decode cL_law 196 = .ok (.lstore 6, 2) := by decide +kernel
theorem dL_law_198 : decode cL_law 198 = .ok (.aload_n 1, 1) := by decide +kernel
theorem dL_law_199 : decode cL_law 199 = .ok (.iconst 1, 1) := by decide +kernel
theorem dL_law_200 : decode cL_law 200 = .ok (.iconst 2, 1) := by decide +kernel
theorem dL_law_201 : decode cL_law 201 = .ok (.iconst 3, 1) := by decide +kernel
theorem dL_law_202 : decode cL_law 202 = .ok (.invokestatic 129, 3) := by decide +kernel
theorem dL_law_205 : decode cL_law 205 = .ok (.iconst 3, 1) := by decide +kernel
theorem dL_law_206 : decode cL_law 206 = .ok (.if_icmp .ne 38, 3) := by decide +kernel
theorem dL_law_209 : decode cL_law 209 = .ok (.aload_n 1, 1) := by decide +kernel
theorem dL_law_210 : decode cL_law 210 = .ok (.invokestatic 199, 3) := by decide +kernel
theorem dL_law_213 : decode cL_law 213 = .ok (.ifCond .lt 31, 3) := by decide +kernel
theorem dL_law_216 : decode cL_law 216 = .ok (.aload_n 1, 1) := by decide +kernel
theorem dL_law_217 : decode cL_law 217 = .ok (.invokestatic 192, 3) := by decide +kernel
theorem dL_law_220 : decode cL_law 220 = .ok (.ifCond .lt 24, 3) := by decide +kernel
theorem dL_law_223 : decode cL_law 223 = .ok (.aload_n 1, 1) := by decide +kernel
theorem dL_law_224 : decode cL_law 224 = .ok (.invokestatic 192, 3) := by decide +kernel
theorem dL_law_227 : decode cL_law 227 = .ok (.ifCond .lt 17, 3) := by decide +kernel
theorem dL_law_230 : decode cL_law 230 = .ok (.aload_n 1, 1) := by decide +kernel
theorem dL_law_231 : decode cL_law 231 = .ok (.invokestatic 125, 3) := by decide +kernel
theorem dL_law_234 : decode cL_law 234 = .ok (.lload 6, 2) := by decide +kernel
theorem dL_law_236 : decode cL_law 236 = .ok (.lcmp, 1) := by decide +kernel
theorem dL_law_237 : decode cL_law 237 = .ok (.ifCond .ne 7, 3) := by decide +kernel
theorem dL_law_240 : decode cL_law 240 = .ok (.iconst 1, 1) := by decide +kernel
theorem dL_law_241 : decode cL_law 241 = .ok (.goto 4, 3) := by decide +kernel
theorem dL_law_244 : decode cL_law 244 = .ok (.iconst 0, 1) := by decide +kernel
theorem dL_law_245 : decode cL_law 245 = .ok (.istore_n 2, 1) := by decide +kernel
theorem dL_law_246 : decode cL_law 246 = .ok (.iinc 3 1, 3) := by decide +kernel
theorem dL_law_249 : decode cL_law 249 = .ok (.goto (-195), 3) := by decide +kernel
theorem dL_law_252 : decode cL_law 252 = .ok (.iload_n 2, 1) := by decide +kernel
theorem dL_law_253 : decode cL_law 253 = .ok (.ifCond .eq 14, 3) := by decide +kernel
theorem dL_law_256 : decode cL_law 256 = .ok (.aload_n 1, 1) := by decide +kernel
theorem dL_law_257 : decode cL_law 257 = .ok (.invokestatic 207, 3) := by decide +kernel
theorem dL_law_260 : decode cL_law 260 = .ok (.ifCond .eq 7, 3) := by decide +kernel
theorem dL_law_263 : decode cL_law 263 = .ok (.iconst 1, 1) := by decide +kernel
theorem dL_law_264 : decode cL_law 264 = .ok (.goto 4, 3) := by decide +kernel
theorem dL_law_267 : decode cL_law 267 = .ok (.iconst 0, 1) := by decide +kernel
theorem dL_law_268 : decode cL_law 268 = .ok (.ireturn, 1) := by decide +kernel
