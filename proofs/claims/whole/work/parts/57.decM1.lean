theorem d_Mod_instruction_493 : decode b_Mod_instruction 493 = .ok (.bipush 8, 2) := by decide +kernel
theorem d_Mod_instruction_495 : decode b_Mod_instruction 495 = .ok (.ishr, 1) := by decide +kernel
theorem d_Mod_instruction_496 : decode b_Mod_instruction 496 = .ok (.bipush 15, 2) := by decide +kernel
theorem d_Mod_instruction_498 : decode b_Mod_instruction 498 = .ok (.iand, 1) := by decide +kernel
theorem d_Mod_instruction_499 : decode b_Mod_instruction 499 = .ok (.iconst 1, 1) := by decide +kernel
theorem d_Mod_instruction_500 : decode b_Mod_instruction 500 = .ok (.ishl, 1) := by decide +kernel
theorem d_Mod_instruction_501 : decode b_Mod_instruction 501 = .ok (.ior, 1) := by decide +kernel
theorem d_Mod_instruction_502 : decode b_Mod_instruction 502 = .ok (.iadd, 1) := by decide +kernel
theorem d_Mod_instruction_503 : decode b_Mod_instruction 503 = .ok (.invokevirtual 179, 3) := by decide +kernel
theorem d_Mod_instruction_506 : decode b_Mod_instruction 506 = .ok (.pop, 1) := by decide +kernel
theorem d_Mod_instruction_507 : decode b_Mod_instruction 507 = .ok (.iconst 0, 1) := by decide +kernel
theorem d_Mod_instruction_508 : decode b_Mod_instruction 508 = .ok (.ireturn, 1) := by decide +kernel
theorem d_Mod_instruction_509 : decode b_Mod_instruction 509 = .ok (.iload_n 3, 1) := by decide +kernel
theorem d_Mod_instruction_510 : decode b_Mod_instruction 510 = .ok (.iconst 5, 1) := by decide +kernel
theorem d_Mod_instruction_511 : decode b_Mod_instruction 511 = .ok (.if_icmp .le 12, 3) := by decide +kernel
theorem d_Mod_instruction_514 : decode b_Mod_instruction 514 = .ok (.aload_n 0, 1) := by decide +kernel
theorem d_Mod_instruction_515 : decode b_Mod_instruction 515 = .ok (.iconst 2, 1) := by decide +kernel
theorem d_Mod_instruction_516 : decode b_Mod_instruction 516 = .ok (.iload_n 1, 1) := by decide +kernel
theorem d_Mod_instruction_517 : decode b_Mod_instruction 517 = .ok (.invokevirtual 159, 3) := by decide +kernel
theorem d_Mod_instruction_520 : decode b_Mod_instruction 520 = .ok (.goto 18, 3) := by decide +kernel
theorem d_Mod_instruction_523 : decode b_Mod_instruction 523 = .ok (.aload_n 0, 1) := by decide +kernel
theorem d_Mod_instruction_524 : decode b_Mod_instruction 524 = .ok (.iload_n 2, 1) := by decide +kernel
theorem d_Mod_instruction_525 : decode b_Mod_instruction 525 = .ok (.iload_n 3, 1) := by decide +kernel
theorem d_Mod_instruction_526 : decode b_Mod_instruction 526 = .ok (.iload 4, 2) := by decide +kernel
theorem d_Mod_instruction_528 : decode b_Mod_instruction 528 = .ok (.iload 7, 2) := by decide +kernel
theorem d_Mod_instruction_530 : decode b_Mod_instruction 530 = .ok (.iload_n 1, 1) := by decide +kernel
theorem d_Mod_instruction_531 : decode b_Mod_instruction 531 = .ok (.bipush 20, 2) := by decide +kernel
theorem d_Mod_instruction_533 : decode b_Mod_instruction 533 = .ok (.ishr, 1) := by decide +kernel
theorem d_Mod_instruction_534 : decode b_Mod_instruction 534 = .ok (.iadd, 1) := by decide +kernel
theorem d_Mod_instruction_535 : decode b_Mod_instruction 535 = .ok (.invokevirtual 186, 3) := by decide +kernel
theorem d_Mod_instruction_538 : decode b_Mod_instruction 538 = .ok (.ireturn, 1) := by decide +kernel
theorem d_Mod_instruction_539 : decode b_Mod_instruction 539 = .ok (.iload_n 3, 1) := by decide +kernel
theorem d_Mod_instruction_540 : decode b_Mod_instruction 540 = .ok (.iconst 3, 1) := by decide +kernel
theorem d_Mod_instruction_541 : decode b_Mod_instruction 541 = .ok (.if_icmp .le 12, 3) := by decide +kernel
theorem d_Mod_instruction_544 : decode b_Mod_instruction 544 = .ok (.aload_n 0, 1) := by decide +kernel
theorem d_Mod_instruction_545 : decode b_Mod_instruction 545 = .ok (.iconst 2, 1) := by decide +kernel
theorem d_Mod_instruction_546 : decode b_Mod_instruction 546 = .ok (.iload_n 1, 1) := by decide +kernel
theorem d_Mod_instruction_547 : decode b_Mod_instruction 547 = .ok (.invokevirtual 159, 3) := by decide +kernel
theorem d_Mod_instruction_550 : decode b_Mod_instruction 550 = .ok (.goto 23, 3) := by decide +kernel
theorem d_Mod_instruction_553 : decode b_Mod_instruction 553 = .ok (.aload_n 0, 1) := by decide +kernel
theorem d_Mod_instruction_554 : decode b_Mod_instruction 554 = .ok (.iload_n 3, 1) := by decide +kernel
theorem d_Mod_instruction_555 : decode b_Mod_instruction 555 = .ok (.iload 4, 2) := by decide +kernel
theorem d_Mod_instruction_557 : decode b_Mod_instruction 557 = .ok (.iload 7, 2) := by decide +kernel
theorem d_Mod_instruction_559 : decode b_Mod_instruction 559 = .ok (.iload_n 1, 1) := by decide +kernel
theorem d_Mod_instruction_560 : decode b_Mod_instruction 560 = .ok (.bipush 25, 2) := by decide +kernel
theorem d_Mod_instruction_562 : decode b_Mod_instruction 562 = .ok (.ishr, 1) := by decide +kernel
theorem d_Mod_instruction_563 : decode b_Mod_instruction 563 = .ok (.iconst 5, 1) := by decide +kernel
theorem d_Mod_instruction_564 : decode b_Mod_instruction 564 = .ok (.ishl, 1) := by decide +kernel
theorem d_Mod_instruction_565 : decode b_Mod_instruction 565 = .ok (.iload_n 2, 1) := by decide +kernel
theorem d_Mod_instruction_566 : decode b_Mod_instruction 566 = .ok (.ior, 1) := by decide +kernel
theorem d_Mod_instruction_567 : decode b_Mod_instruction 567 = .ok (.iadd, 1) := by decide +kernel
theorem d_Mod_instruction_568 : decode b_Mod_instruction 568 = .ok (.iload 5, 2) := by decide +kernel
theorem d_Mod_instruction_570 : decode b_Mod_instruction 570 = .ok (.invokevirtual 189, 3) := by decide +kernel
theorem d_Mod_instruction_573 : decode b_Mod_instruction 573 = .ok (.ireturn, 1) := by decide +kernel
theorem d_Mod_instruction_574 : decode b_Mod_instruction 574 = .ok (.iload_n 1, 1) := by decide +kernel
theorem d_Mod_instruction_575 : decode b_Mod_instruction 575 = .ok (.bipush 20, 2) := by decide +kernel
theorem d_Mod_instruction_577 : decode b_Mod_instruction 577 = .ok (.ishr, 1) := by decide +kernel
theorem d_Mod_instruction_578 : decode b_Mod_instruction 578 = .ok (.istore 10, 2) := by decide +kernel
theorem d_Mod_instruction_580 : decode b_Mod_instruction 580 = .ok (.iload_n 3, 1) := by decide +kernel
theorem d_Mod_instruction_581 : decode b_Mod_instruction 581 = .ok (.iconst 1, 1) := by decide +kernel
theorem d_Mod_instruction_582 : decode b_Mod_instruction 582 = .ok (.if_icmp .ne 8, 3) := by decide +kernel
theorem d_Mod_instruction_585 : decode b_Mod_instruction 585 = .ok (.iload 6, 2) := by decide +kernel
theorem d_Mod_instruction_587 : decode b_Mod_instruction 587 = .ok (.ifCond .ne 20, 3) := by decide +kernel
theorem d_Mod_instruction_590 : decode b_Mod_instruction 590 = .ok (.iload_n 3, 1) := by decide +kernel
theorem d_Mod_instruction_591 : decode b_Mod_instruction 591 = .ok (.iconst 5, 1) := by decide +kernel
theorem d_Mod_instruction_592 : decode b_Mod_instruction 592 = .ok (.if_icmp .ne 22, 3) := by decide +kernel
theorem d_Mod_instruction_595 : decode b_Mod_instruction 595 = .ok (.iload 6, 2) := by decide +kernel
theorem d_Mod_instruction_597 : decode b_Mod_instruction 597 = .ok (.ifCond .eq 17, 3) := by decide +kernel
theorem d_Mod_instruction_600 : decode b_Mod_instruction 600 = .ok (.iload 6, 2) := by decide +kernel
theorem d_Mod_instruction_602 : decode b_Mod_instruction 602 = .ok (.bipush 32, 2) := by decide +kernel
theorem d_Mod_instruction_604 : decode b_Mod_instruction 604 = .ok (.if_icmp .eq 10, 3) := by decide +kernel
theorem d_Mod_instruction_607 : decode b_Mod_instruction 607 = .ok (.aload_n 0, 1) := by decide +kernel
theorem d_Mod_instruction_608 : decode b_Mod_instruction 608 = .ok (.iconst 2, 1) := by decide +kernel
theorem d_Mod_instruction_609 : decode b_Mod_instruction 609 = .ok (.iload_n 1, 1) := by decide +kernel
theorem d_Mod_instruction_610 : decode b_Mod_instruction 610 = .ok (.invokevirtual 159, 3) := by decide +kernel
theorem d_Mod_instruction_613 : decode b_Mod_instruction 613 = .ok (.ireturn, 1) := by decide +kernel
theorem d_Mod_instruction_614 : decode b_Mod_instruction 614 = .ok (.aload_n 0, 1) := by decide +kernel
theorem d_Mod_instruction_615 : decode b_Mod_instruction 615 = .ok (.iload_n 2, 1) := by decide +kernel
theorem d_Mod_instruction_616 : decode b_Mod_instruction 616 = .ok (.iload_n 3, 1) := by decide +kernel
theorem d_Mod_instruction_617 : decode b_Mod_instruction 617 = .ok (.iload 7, 2) := by decide +kernel
theorem d_Mod_instruction_619 : decode b_Mod_instruction 619 = .ok (.iload_n 3, 1) := by decide +kernel
theorem d_Mod_instruction_620 : decode b_Mod_instruction 620 = .ok (.iconst 1, 1) := by decide +kernel
theorem d_Mod_instruction_621 : decode b_Mod_instruction 621 = .ok (.if_icmp .eq 8, 3) := by decide +kernel
theorem d_Mod_instruction_624 : decode b_Mod_instruction 624 = .ok (.iload_n 3, 1) := by decide +kernel
theorem d_Mod_instruction_625 : decode b_Mod_instruction 625 = .ok (.iconst 5, 1) := by decide +kernel
theorem d_Mod_instruction_626 : decode b_Mod_instruction 626 = .ok (.if_icmp .ne 8, 3) := by decide +kernel
theorem d_Mod_instruction_629 : decode b_Mod_instruction 629 = .ok (.iload 5, 2) := by decide +kernel
theorem d_Mod_instruction_631 : decode b_Mod_instruction 631 = .ok (.goto 5, 3) := by decide +kernel
theorem d_Mod_instruction_634 : decode b_Mod_instruction 634 = .ok (.iload 10, 2) := by decide +kernel
theorem d_Mod_instruction_636 : decode b_Mod_instruction 636 = .ok (.iload_n 3, 1) := by decide +kernel
theorem d_Mod_instruction_637 : decode b_Mod_instruction 637 = .ok (.iconst 5, 1) := by decide +kernel
theorem d_Mod_instruction_638 : decode b_Mod_instruction 638 = .ok (.if_icmp .ne 14, 3) := by decide +kernel
theorem d_Mod_instruction_641 : decode b_Mod_instruction 641 = .ok (.iload 6, 2) := by decide +kernel
theorem d_Mod_instruction_643 : decode b_Mod_instruction 643 = .ok (.bipush 32, 2) := by decide +kernel
theorem d_Mod_instruction_645 : decode b_Mod_instruction 645 = .ok (.if_icmp .ne 7, 3) := by decide +kernel
theorem d_Mod_instruction_648 : decode b_Mod_instruction 648 = .ok (.iconst 1, 1) := by decide +kernel
theorem d_Mod_instruction_649 : decode b_Mod_instruction 649 = .ok (.goto 4, 3) := by decide +kernel
theorem d_Mod_instruction_652 : decode b_Mod_instruction 652 = .ok (.iconst 0, 1) := by decide +kernel
theorem d_Mod_instruction_653 : decode b_Mod_instruction 653 = .ok (.invokestatic 192, 3) := by decide +kernel
theorem d_Mod_instruction_656 : decode b_Mod_instruction 656 = .ok (.invokevirtual 172, 3) := by decide +kernel
theorem d_Mod_instruction_659 : decode b_Mod_instruction 659 = .ok (.iconst 1, 1) := by decide +kernel
theorem d_Mod_instruction_660 : decode b_Mod_instruction 660 = .ok (.ireturn, 1) := by decide +kernel
theorem d_Mod_instruction_661 : decode b_Mod_instruction 661 = .ok (.iload 6, 2) := by decide +kernel
theorem d_Mod_instruction_663 : decode b_Mod_instruction 663 = .ok (.ifCond .eq 26, 3) := by decide +kernel
theorem d_Mod_instruction_666 : decode b_Mod_instruction 666 = .ok (.iload 6, 2) := by decide +kernel
theorem d_Mod_instruction_668 : decode b_Mod_instruction 668 = .ok (.bipush 32, 2) := by decide +kernel
theorem d_Mod_instruction_670 : decode b_Mod_instruction 670 = .ok (.if_icmp .ne 12, 3) := by decide +kernel
theorem d_Mod_instruction_673 : decode b_Mod_instruction 673 = .ok (.iload_n 3, 1) := by decide +kernel
theorem d_Mod_instruction_674 : decode b_Mod_instruction 674 = .ok (.ifCond .eq 15, 3) := by decide +kernel
theorem d_Mod_instruction_677 : decode b_Mod_instruction 677 = .ok (.iload_n 3, 1) := by decide +kernel
theorem d_Mod_instruction_678 : decode b_Mod_instruction 678 = .ok (.iconst 5, 1) := by decide +kernel
theorem d_Mod_instruction_679 : decode b_Mod_instruction 679 = .ok (.if_icmp .eq 10, 3) := by decide +kernel
theorem d_Mod_instruction_682 : decode b_Mod_instruction 682 = .ok (.aload_n 0, 1) := by decide +kernel
theorem d_Mod_instruction_683 : decode b_Mod_instruction 683 = .ok (.iconst 2, 1) := by decide +kernel
theorem d_Mod_instruction_684 : decode b_Mod_instruction 684 = .ok (.iload_n 1, 1) := by decide +kernel
theorem d_Mod_instruction_685 : decode b_Mod_instruction 685 = .ok (.invokevirtual 159, 3) := by decide +kernel
theorem d_Mod_instruction_688 : decode b_Mod_instruction 688 = .ok (.ireturn, 1) := by decide +kernel
theorem d_Mod_instruction_689 : decode b_Mod_instruction 689 = .ok (.aload_n 0, 1) := by decide +kernel
theorem d_Mod_instruction_690 : decode b_Mod_instruction 690 = .ok (.iload_n 2, 1) := by decide +kernel
theorem d_Mod_instruction_691 : decode b_Mod_instruction 691 = .ok (.iload_n 3, 1) := by decide +kernel
theorem d_Mod_instruction_692 : decode b_Mod_instruction 692 = .ok (.ifCond .ne 18, 3) := by decide +kernel
theorem d_Mod_instruction_695 : decode b_Mod_instruction 695 = .ok (.iload 6, 2) := by decide +kernel
theorem d_Mod_instruction_697 : decode b_Mod_instruction 697 = .ok (.bipush 32, 2) := by decide +kernel
theorem d_Mod_instruction_699 : decode b_Mod_instruction 699 = .ok (.if_icmp .ne 11, 3) := by decide +kernel
theorem d_Mod_instruction_702 : decode b_Mod_instruction 702 = .ok (.iload 7, 2) := by decide +kernel
theorem d_Mod_instruction_704 : decode b_Mod_instruction 704 = .ok (.iload 8, 2) := by decide +kernel
theorem d_Mod_instruction_706 : decode b_Mod_instruction 706 = .ok (.isub, 1) := by decide +kernel
theorem d_Mod_instruction_707 : decode b_Mod_instruction 707 = .ok (.goto 23, 3) := by decide +kernel
theorem d_Mod_instruction_710 : decode b_Mod_instruction 710 = .ok (.iload_n 3, 1) := by decide +kernel
theorem d_Mod_instruction_711 : decode b_Mod_instruction 711 = .ok (.iload 7, 2) := by decide +kernel
theorem d_Mod_instruction_713 : decode b_Mod_instruction 713 = .ok (.iload 8, 2) := by decide +kernel
theorem d_Mod_instruction_715 : decode b_Mod_instruction 715 = .ok (.iload 6, 2) := by decide +kernel
theorem d_Mod_instruction_717 : decode b_Mod_instruction 717 = .ok (.bipush 32, 2) := by decide +kernel
theorem d_Mod_instruction_719 : decode b_Mod_instruction 719 = .ok (.if_icmp .ne 7, 3) := by decide +kernel
theorem d_Mod_instruction_722 : decode b_Mod_instruction 722 = .ok (.iconst 1, 1) := by decide +kernel
theorem d_Mod_instruction_723 : decode b_Mod_instruction 723 = .ok (.goto 4, 3) := by decide +kernel
theorem d_Mod_instruction_726 : decode b_Mod_instruction 726 = .ok (.iconst 0, 1) := by decide +kernel
theorem d_Mod_instruction_727 : decode b_Mod_instruction 727 = .ok (.invokestatic 192, 3) := by decide +kernel
theorem d_Mod_instruction_730 : decode b_Mod_instruction 730 = .ok (.invokevirtual 172, 3) := by decide +kernel
theorem d_Mod_instruction_733 : decode b_Mod_instruction 733 = .ok (.iconst 1, 1) := by decide +kernel
theorem d_Mod_instruction_734 : decode b_Mod_instruction 734 = .ok (.ireturn, 1) := by decide +kernel
theorem d_Mod_instruction_735 : decode b_Mod_instruction 735 = .ok (.iload_n 3, 1) := by decide +kernel
theorem d_Mod_instruction_736 : decode b_Mod_instruction 736 = .ok (.ifCond .eq 12, 3) := by decide +kernel
theorem d_Mod_instruction_739 : decode b_Mod_instruction 739 = .ok (.aload_n 0, 1) := by decide +kernel
theorem d_Mod_instruction_740 : decode b_Mod_instruction 740 = .ok (.iconst 2, 1) := by decide +kernel
theorem d_Mod_instruction_741 : decode b_Mod_instruction 741 = .ok (.iload_n 1, 1) := by decide +kernel
theorem d_Mod_instruction_742 : decode b_Mod_instruction 742 = .ok (.invokevirtual 159, 3) := by decide +kernel
theorem d_Mod_instruction_745 : decode b_Mod_instruction 745 = .ok (.ifCond .eq 7, 3) := by decide +kernel
theorem d_Mod_instruction_748 : decode b_Mod_instruction 748 = .ok (.iconst 1, 1) := by decide +kernel
theorem d_Mod_instruction_749 : decode b_Mod_instruction 749 = .ok (.goto 4, 3) := by decide +kernel
theorem d_Mod_instruction_752 : decode b_Mod_instruction 752 = .ok (.iconst 0, 1) := by decide +kernel
theorem d_Mod_instruction_753 : decode b_Mod_instruction 753 = .ok (.ireturn, 1) := by decide +kernel
theorem d_Mod_instruction_754 : decode b_Mod_instruction 754 = .ok (.aload_n 0, 1) := by decide +kernel
theorem d_Mod_instruction_755 : decode b_Mod_instruction 755 = .ok (.iload_n 1, 1) := by decide +kernel
theorem d_Mod_instruction_756 : decode b_Mod_instruction 756 = .ok (.iload_n 2, 1) := by decide +kernel
theorem d_Mod_instruction_757 : decode b_Mod_instruction 757 = .ok (.iload_n 3, 1) := by decide +kernel
theorem d_Mod_instruction_758 : decode b_Mod_instruction 758 = .ok (.iload 4, 2) := by decide +kernel
theorem d_Mod_instruction_760 : decode b_Mod_instruction 760 = .ok (.iload 5, 2) := by decide +kernel
theorem d_Mod_instruction_762 : decode b_Mod_instruction 762 = .ok (.invokevirtual 196, 3) := by decide +kernel
theorem d_Mod_instruction_765 : decode b_Mod_instruction 765 = .ok (.ireturn, 1) := by decide +kernel
theorem d_Mod_instruction_766 : decode b_Mod_instruction 766 = .ok (.aload_n 0, 1) := by decide +kernel
theorem d_Mod_instruction_767 : decode b_Mod_instruction 767 = .ok (.iload_n 1, 1) := by decide +kernel
theorem d_Mod_instruction_768 : decode b_Mod_instruction 768 = .ok (.iload_n 2, 1) := by decide +kernel
theorem d_Mod_instruction_769 : decode b_Mod_instruction 769 = .ok (.iload_n 3, 1) := by decide +kernel
theorem d_Mod_instruction_770 : decode b_Mod_instruction 770 = .ok (.iload 4, 2) := by decide +kernel
theorem d_Mod_instruction_772 : decode b_Mod_instruction 772 = .ok (.iload 5, 2) := by decide +kernel
theorem d_Mod_instruction_774 : decode b_Mod_instruction 774 = .ok (.iload 6, 2) := by decide +kernel
theorem d_Mod_instruction_776 : decode b_Mod_instruction 776 = .ok (.invokevirtual 200, 3) := by decide +kernel
theorem d_Mod_instruction_779 : decode b_Mod_instruction 779 = .ok (.ireturn, 1) := by decide +kernel
theorem d_Mod_instruction_780 : decode b_Mod_instruction 780 = .ok (.aload_n 0, 1) := by decide +kernel
theorem d_Mod_instruction_781 : decode b_Mod_instruction 781 = .ok (.iconst 2, 1) := by decide +kernel
theorem d_Mod_instruction_782 : decode b_Mod_instruction 782 = .ok (.iload_n 1, 1) := by decide +kernel
theorem d_Mod_instruction_783 : decode b_Mod_instruction 783 = .ok (.invokevirtual 159, 3) := by decide +kernel
theorem d_Mod_instruction_786 : decode b_Mod_instruction 786 = .ok (.ireturn, 1) := by decide +kernel
theorem d_Mod_number_0 : decode b_Mod_number 0 = .ok (.aload_n 0, 1) := by decide +kernel
theorem d_Mod_number_1 : decode b_Mod_number 1 = .ok (.iload_n 1, 1) := by decide +kernel
theorem d_Mod_number_2 : decode b_Mod_number 2 = .ok (.iconst 0, 1) := by decide +kernel
theorem d_Mod_number_3 : decode b_Mod_number 3 = .ok (.iload_n 2, 1) := by decide +kernel
theorem d_Mod_number_4 : decode b_Mod_number 4 = .ok (.ldc 36, 2) := by decide +kernel
theorem d_Mod_number_6 : decode b_Mod_number 6 = .ok (.invokevirtual 100, 3) := by decide +kernel
theorem d_Mod_number_9 : decode b_Mod_number 9 = .ok (.return_, 1) := by decide +kernel
theorem d_Mod_moved_0 : decode b_Mod_moved 0 = .ok (.aload_n 0, 1) := by decide +kernel
theorem d_Mod_moved_1 : decode b_Mod_moved 1 = .ok (.iload_n 3, 1) := by decide +kernel
theorem d_Mod_moved_2 : decode b_Mod_moved 2 = .ok (.aload_n 0, 1) := by decide +kernel
theorem d_Mod_moved_3 : decode b_Mod_moved 3 = .ok (.getfield 7, 3) := by decide +kernel
theorem d_Mod_moved_6 : decode b_Mod_moved 6 = .ok (.iload_n 1, 1) := by decide +kernel
theorem d_Mod_moved_7 : decode b_Mod_moved 7 = .ok (.baload, 1) := by decide +kernel
theorem d_Mod_moved_8 : decode b_Mod_moved 8 = .ok (.ifCond .eq 41, 3) := by decide +kernel
theorem d_Mod_moved_11 : decode b_Mod_moved 11 = .ok (.aload_n 0, 1) := by decide +kernel
theorem d_Mod_moved_12 : decode b_Mod_moved 12 = .ok (.getfield 17, 3) := by decide +kernel
theorem d_Mod_moved_15 : decode b_Mod_moved 15 = .ok (.iload_n 1, 1) := by decide +kernel
theorem d_Mod_moved_16 : decode b_Mod_moved 16 = .ok (.iaload, 1) := by decide +kernel
theorem d_Mod_moved_17 : decode b_Mod_moved 17 = .ok (.invokestatic 104, 3) := by decide +kernel
theorem d_Mod_moved_20 : decode b_Mod_moved 20 = .ok (.bipush 15, 2) := by decide +kernel
theorem d_Mod_moved_22 : decode b_Mod_moved 22 = .ok (.if_icmp .ne 27, 3) := by decide +kernel
theorem d_Mod_moved_25 : decode b_Mod_moved 25 = .ok (.aload_n 0, 1) := by decide +kernel
theorem d_Mod_moved_26 : decode b_Mod_moved 26 = .ok (.aload_n 0, 1) := by decide +kernel
theorem d_Mod_moved_27 : decode b_Mod_moved 27 = .ok (.getfield 17, 3) := by decide +kernel
theorem d_Mod_moved_30 : decode b_Mod_moved 30 = .ok (.iload_n 1, 1) := by decide +kernel
theorem d_Mod_moved_31 : decode b_Mod_moved 31 = .ok (.iaload, 1) := by decide +kernel
theorem d_Mod_moved_32 : decode b_Mod_moved 32 = .ok (.aload_n 0, 1) := by decide +kernel
theorem d_Mod_moved_33 : decode b_Mod_moved 33 = .ok (.getfield 13, 3) := by decide +kernel
theorem d_Mod_moved_36 : decode b_Mod_moved 36 = .ok (.iload_n 1, 1) := by decide +kernel
theorem d_Mod_moved_37 : decode b_Mod_moved 37 = .ok (.iaload, 1) := by decide +kernel
theorem d_Mod_moved_38 : decode b_Mod_moved 38 = .ok (.iload_n 2, 1) := by decide +kernel
theorem d_Mod_moved_39 : decode b_Mod_moved 39 = .ok (.invokevirtual 107, 3) := by decide +kernel
theorem d_Mod_moved_42 : decode b_Mod_moved 42 = .ok (.ifCond .eq 7, 3) := by decide +kernel
theorem d_Mod_moved_45 : decode b_Mod_moved 45 = .ok (.iconst 1, 1) := by decide +kernel
theorem d_Mod_moved_46 : decode b_Mod_moved 46 = .ok (.goto 4, 3) := by decide +kernel
theorem d_Mod_moved_49 : decode b_Mod_moved 49 = .ok (.iconst 0, 1) := by decide +kernel
theorem d_Mod_moved_50 : decode b_Mod_moved 50 = .ok (.iload_n 2, 1) := by decide +kernel
theorem d_Mod_moved_51 : decode b_Mod_moved 51 = .ok (.aload_n 0, 1) := by decide +kernel
theorem d_Mod_moved_52 : decode b_Mod_moved 52 = .ok (.getfield 17, 3) := by decide +kernel
theorem d_Mod_moved_55 : decode b_Mod_moved 55 = .ok (.iload_n 1, 1) := by decide +kernel
theorem d_Mod_moved_56 : decode b_Mod_moved 56 = .ok (.iaload, 1) := by decide +kernel
theorem d_Mod_moved_57 : decode b_Mod_moved 57 = .ok (.invokevirtual 100, 3) := by decide +kernel
theorem d_Mod_moved_60 : decode b_Mod_moved 60 = .ok (.return_, 1) := by decide +kernel
theorem d_Mod_same_0 : decode b_Mod_same 0 = .ok (.iload_n 1, 1) := by decide +kernel
theorem d_Mod_same_1 : decode b_Mod_same 1 = .ok (.iload_n 2, 1) := by decide +kernel
theorem d_Mod_same_2 : decode b_Mod_same 2 = .ok (.invokestatic 75, 3) := by decide +kernel
theorem d_Mod_same_5 : decode b_Mod_same 5 = .ok (.iload_n 1, 1) := by decide +kernel
theorem d_Mod_same_6 : decode b_Mod_same 6 = .ok (.iload_n 3, 1) := by decide +kernel
theorem d_Mod_same_7 : decode b_Mod_same 7 = .ok (.invokestatic 75, 3) := by decide +kernel
theorem d_Mod_same_10 : decode b_Mod_same 10 = .ok (.lcmp, 1) := by decide +kernel
theorem d_Mod_same_11 : decode b_Mod_same 11 = .ok (.ifCond .ne 21, 3) := by decide +kernel
theorem d_Mod_same_14 : decode b_Mod_same 14 = .ok (.iload_n 1, 1) := by decide +kernel
theorem d_Mod_same_15 : decode b_Mod_same 15 = .ok (.iload_n 2, 1) := by decide +kernel
theorem d_Mod_same_16 : decode b_Mod_same 16 = .ok (.invokestatic 80, 3) := by decide +kernel
theorem d_Mod_same_19 : decode b_Mod_same 19 = .ok (.iload_n 1, 1) := by decide +kernel
theorem d_Mod_same_20 : decode b_Mod_same 20 = .ok (.iload_n 3, 1) := by decide +kernel
theorem d_Mod_same_21 : decode b_Mod_same 21 = .ok (.invokestatic 80, 3) := by decide +kernel
theorem d_Mod_same_24 : decode b_Mod_same 24 = .ok (.lcmp, 1) := by decide +kernel
theorem d_Mod_same_25 : decode b_Mod_same 25 = .ok (.ifCond .ne 7, 3) := by decide +kernel
theorem d_Mod_same_28 : decode b_Mod_same 28 = .ok (.iconst 1, 1) := by decide +kernel
theorem d_Mod_same_29 : decode b_Mod_same 29 = .ok (.goto 4, 3) := by decide +kernel
theorem d_Mod_same_32 : decode b_Mod_same 32 = .ok (.iconst 0, 1) := by decide +kernel
theorem d_Mod_same_33 : decode b_Mod_same 33 = .ok (.ireturn, 1) := by decide +kernel
theorem d_Mod_link_0 : decode b_Mod_link 0 = .ok (.aload_n 0, 1) := by decide +kernel
theorem d_Mod_link_1 : decode b_Mod_link 1 = .ok (.bipush 32, 2) := by decide +kernel
theorem d_Mod_link_3 : decode b_Mod_link 3 = .ok (.aload_n 0, 1) := by decide +kernel
theorem d_Mod_link_4 : decode b_Mod_link 4 = .ok (.getfield 13, 3) := by decide +kernel
theorem d_Mod_link_7 : decode b_Mod_link 7 = .ok (.bipush 32, 2) := by decide +kernel
theorem d_Mod_link_9 : decode b_Mod_link 9 = .ok (.iaload, 1) := by decide +kernel
theorem d_Mod_link_10 : decode b_Mod_link 10 = .ok (.iconst 4, 1) := by decide +kernel
theorem d_Mod_link_11 : decode b_Mod_link 11 = .ok (.iadd, 1) := by decide +kernel
theorem d_Mod_link_12 : decode b_Mod_link 12 = .ok (.bipush 38, 2) := by decide +kernel
theorem d_Mod_link_14 : decode b_Mod_link 14 = .ok (.invokevirtual 168, 3) := by decide +kernel
theorem d_Mod_link_17 : decode b_Mod_link 17 = .ok (.aload_n 0, 1) := by decide +kernel
theorem d_Mod_link_18 : decode b_Mod_link 18 = .ok (.getfield 17, 3) := by decide +kernel
theorem d_Mod_link_21 : decode b_Mod_link 21 = .ok (.bipush 38, 2) := by decide +kernel
theorem d_Mod_link_23 : decode b_Mod_link 23 = .ok (.aload_n 0, 1) := by decide +kernel
theorem d_Mod_link_24 : decode b_Mod_link 24 = .ok (.getfield 17, 3) := by decide +kernel
theorem d_Mod_link_27 : decode b_Mod_link 27 = .ok (.bipush 38, 2) := by decide +kernel
theorem d_Mod_link_29 : decode b_Mod_link 29 = .ok (.iaload, 1) := by decide +kernel
theorem d_Mod_link_30 : decode b_Mod_link 30 = .ok (.bipush 14, 2) := by decide +kernel
theorem d_Mod_link_32 : decode b_Mod_link 32 = .ok (.invokestatic 204, 3) := by decide +kernel
theorem d_Mod_link_35 : decode b_Mod_link 35 = .ok (.iastore, 1) := by decide +kernel
theorem d_Mod_link_36 : decode b_Mod_link 36 = .ok (.return_, 1) := by decide +kernel
theorem d_Mod_withType_0 : decode b_Mod_withType 0 = .ok (.iload_n 0, 1) := by decide +kernel
theorem d_Mod_withType_1 : decode b_Mod_withType 1 = .ok (.ldc 43, 2) := by decide +kernel
theorem d_Mod_withType_3 : decode b_Mod_withType 3 = .ok (.iand, 1) := by decide +kernel
theorem d_Mod_withType_4 : decode b_Mod_withType 4 = .ok (.iload_n 1, 1) := by decide +kernel
theorem d_Mod_withType_5 : decode b_Mod_withType 5 = .ok (.bipush 16, 2) := by decide +kernel
theorem d_Mod_withType_7 : decode b_Mod_withType 7 = .ok (.ishl, 1) := by decide +kernel
theorem d_Mod_withType_8 : decode b_Mod_withType 8 = .ok (.ior, 1) := by decide +kernel
theorem d_Mod_withType_9 : decode b_Mod_withType 9 = .ok (.ireturn, 1) := by decide +kernel
theorem d_Mod_jump_0 : decode b_Mod_jump 0 = .ok (.aload_n 0, 1) := by decide +kernel
theorem d_Mod_jump_1 : decode b_Mod_jump 1 = .ok (.bipush 32, 2) := by decide +kernel
theorem d_Mod_jump_3 : decode b_Mod_jump 3 = .ok (.iload_n 1, 1) := by decide +kernel
theorem d_Mod_jump_4 : decode b_Mod_jump 4 = .ok (.invokestatic 58, 3) := by decide +kernel
theorem d_Mod_jump_7 : decode b_Mod_jump 7 = .ok (.iconst 4, 1) := by decide +kernel
theorem d_Mod_jump_8 : decode b_Mod_jump 8 = .ok (.invokevirtual 126, 3) := by decide +kernel
theorem d_Mod_jump_11 : decode b_Mod_jump 11 = .ok (.ifCond .ne 13, 3) := by decide +kernel
theorem d_Mod_jump_14 : decode b_Mod_jump 14 = .ok (.aload_n 0, 1) := by decide +kernel
theorem d_Mod_jump_15 : decode b_Mod_jump 15 = .ok (.bipush 28, 2) := by decide +kernel
theorem d_Mod_jump_17 : decode b_Mod_jump 17 = .ok (.sipush 1025, 3) := by decide +kernel
theorem d_Mod_jump_20 : decode b_Mod_jump 20 = .ok (.invokevirtual 159, 3) := by decide +kernel
theorem d_Mod_jump_23 : decode b_Mod_jump 23 = .ok (.ireturn, 1) := by decide +kernel
theorem d_Mod_jump_24 : decode b_Mod_jump 24 = .ok (.iload_n 1, 1) := by decide +kernel
theorem d_Mod_jump_25 : decode b_Mod_jump 25 = .ok (.iconst 3, 1) := by decide +kernel
theorem d_Mod_jump_26 : decode b_Mod_jump 26 = .ok (.iand, 1) := by decide +kernel
theorem d_Mod_jump_27 : decode b_Mod_jump 27 = .ok (.ifCond .eq 10, 3) := by decide +kernel
theorem d_Mod_jump_30 : decode b_Mod_jump 30 = .ok (.aload_n 0, 1) := by decide +kernel
theorem d_Mod_jump_31 : decode b_Mod_jump 31 = .ok (.iconst 0, 1) := by decide +kernel
theorem d_Mod_jump_32 : decode b_Mod_jump 32 = .ok (.iload_n 1, 1) := by decide +kernel
theorem d_Mod_jump_33 : decode b_Mod_jump 33 = .ok (.invokevirtual 159, 3) := by decide +kernel
theorem d_Mod_jump_36 : decode b_Mod_jump 36 = .ok (.ireturn, 1) := by decide +kernel
theorem d_Mod_jump_37 : decode b_Mod_jump 37 = .ok (.aload_n 0, 1) := by decide +kernel
theorem d_Mod_jump_38 : decode b_Mod_jump 38 = .ok (.bipush 32, 2) := by decide +kernel
theorem d_Mod_jump_40 : decode b_Mod_jump 40 = .ok (.iload_n 1, 1) := by decide +kernel
theorem d_Mod_jump_41 : decode b_Mod_jump 41 = .ok (.bipush 32, 2) := by decide +kernel
theorem d_Mod_jump_43 : decode b_Mod_jump 43 = .ok (.invokevirtual 168, 3) := by decide +kernel
theorem d_Mod_jump_46 : decode b_Mod_jump 46 = .ok (.iconst 1, 1) := by decide +kernel
theorem d_Mod_jump_47 : decode b_Mod_jump 47 = .ok (.ireturn, 1) := by decide +kernel
theorem d_Mod_jumpBy_0 : decode b_Mod_jumpBy 0 = .ok (.aload_n 0, 1) := by decide +kernel
theorem d_Mod_jumpBy_1 : decode b_Mod_jumpBy 1 = .ok (.getfield 7, 3) := by decide +kernel
theorem d_Mod_jumpBy_4 : decode b_Mod_jumpBy 4 = .ok (.iload_n 2, 1) := by decide +kernel
theorem d_Mod_jumpBy_5 : decode b_Mod_jumpBy 5 = .ok (.baload, 1) := by decide +kernel
theorem d_Mod_jumpBy_6 : decode b_Mod_jumpBy 6 = .ok (.ifCond .ne 10, 3) := by decide +kernel
theorem d_Mod_jumpBy_9 : decode b_Mod_jumpBy 9 = .ok (.aload_n 0, 1) := by decide +kernel
theorem d_Mod_jumpBy_10 : decode b_Mod_jumpBy 10 = .ok (.iload_n 2, 1) := by decide +kernel
theorem d_Mod_jumpBy_11 : decode b_Mod_jumpBy 11 = .ok (.iconst 2, 1) := by decide +kernel
theorem d_Mod_jumpBy_12 : decode b_Mod_jumpBy 12 = .ok (.invokevirtual 208, 3) := by decide +kernel
theorem d_Mod_jumpBy_15 : decode b_Mod_jumpBy 15 = .ok (.ireturn, 1) := by decide +kernel
theorem d_Mod_jumpBy_16 : decode b_Mod_jumpBy 16 = .ok (.aload_n 0, 1) := by decide +kernel
theorem d_Mod_jumpBy_17 : decode b_Mod_jumpBy 17 = .ok (.getfield 17, 3) := by decide +kernel
theorem d_Mod_jumpBy_20 : decode b_Mod_jumpBy 20 = .ok (.iload_n 2, 1) := by decide +kernel
theorem d_Mod_jumpBy_21 : decode b_Mod_jumpBy 21 = .ok (.iaload, 1) := by decide +kernel
theorem d_Mod_jumpBy_22 : decode b_Mod_jumpBy 22 = .ok (.invokestatic 104, 3) := by decide +kernel
theorem d_Mod_jumpBy_25 : decode b_Mod_jumpBy 25 = .ok (.bipush 14, 2) := by decide +kernel
theorem d_Mod_jumpBy_27 : decode b_Mod_jumpBy 27 = .ok (.if_icmp .lt 22, 3) := by decide +kernel
theorem d_Mod_jumpBy_30 : decode b_Mod_jumpBy 30 = .ok (.aload_n 0, 1) := by decide +kernel
theorem d_Mod_jumpBy_31 : decode b_Mod_jumpBy 31 = .ok (.getfield 17, 3) := by decide +kernel
theorem d_Mod_jumpBy_34 : decode b_Mod_jumpBy 34 = .ok (.iload_n 2, 1) := by decide +kernel
theorem d_Mod_jumpBy_35 : decode b_Mod_jumpBy 35 = .ok (.iaload, 1) := by decide +kernel
theorem d_Mod_jumpBy_36 : decode b_Mod_jumpBy 36 = .ok (.invokestatic 104, 3) := by decide +kernel
theorem d_Mod_jumpBy_39 : decode b_Mod_jumpBy 39 = .ok (.bipush 14, 2) := by decide +kernel
theorem d_Mod_jumpBy_41 : decode b_Mod_jumpBy 41 = .ok (.if_icmp .ne 15, 3) := by decide +kernel
theorem d_Mod_jumpBy_44 : decode b_Mod_jumpBy 44 = .ok (.iload 4, 2) := by decide +kernel
theorem d_Mod_jumpBy_46 : decode b_Mod_jumpBy 46 = .ok (.ifCond .eq 10, 3) := by decide +kernel
theorem d_Mod_jumpBy_49 : decode b_Mod_jumpBy 49 = .ok (.aload_n 0, 1) := by decide +kernel
theorem d_Mod_jumpBy_50 : decode b_Mod_jumpBy 50 = .ok (.iload_n 2, 1) := by decide +kernel
theorem d_Mod_jumpBy_51 : decode b_Mod_jumpBy 51 = .ok (.iconst 3, 1) := by decide +kernel
theorem d_Mod_jumpBy_52 : decode b_Mod_jumpBy 52 = .ok (.invokevirtual 208, 3) := by decide +kernel
theorem d_Mod_jumpBy_55 : decode b_Mod_jumpBy 55 = .ok (.ireturn, 1) := by decide +kernel
theorem d_Mod_jumpBy_56 : decode b_Mod_jumpBy 56 = .ok (.aload_n 0, 1) := by decide +kernel
theorem d_Mod_jumpBy_57 : decode b_Mod_jumpBy 57 = .ok (.iload_n 2, 1) := by decide +kernel
theorem d_Mod_jumpBy_58 : decode b_Mod_jumpBy 58 = .ok (.iconst 1, 1) := by decide +kernel
theorem d_Mod_jumpBy_59 : decode b_Mod_jumpBy 59 = .ok (.invokevirtual 122, 3) := by decide +kernel
theorem d_Mod_jumpBy_62 : decode b_Mod_jumpBy 62 = .ok (.ifCond .ne 11, 3) := by decide +kernel
theorem d_Mod_jumpBy_65 : decode b_Mod_jumpBy 65 = .ok (.aload_n 0, 1) := by decide +kernel
theorem d_Mod_jumpBy_66 : decode b_Mod_jumpBy 66 = .ok (.iload_n 2, 1) := by decide +kernel
theorem d_Mod_jumpBy_67 : decode b_Mod_jumpBy 67 = .ok (.bipush 17, 2) := by decide +kernel
theorem d_Mod_jumpBy_69 : decode b_Mod_jumpBy 69 = .ok (.invokevirtual 208, 3) := by decide +kernel
theorem d_Mod_jumpBy_72 : decode b_Mod_jumpBy 72 = .ok (.ireturn, 1) := by decide +kernel
theorem d_Mod_jumpBy_73 : decode b_Mod_jumpBy 73 = .ok (.aload_n 0, 1) := by decide +kernel
theorem d_Mod_jumpBy_74 : decode b_Mod_jumpBy 74 = .ok (.iload_n 2, 1) := by decide +kernel
theorem d_Mod_jumpBy_75 : decode b_Mod_jumpBy 75 = .ok (.iload_n 3, 1) := by decide +kernel
theorem d_Mod_jumpBy_76 : decode b_Mod_jumpBy 76 = .ok (.invokestatic 58, 3) := by decide +kernel
theorem d_Mod_jumpBy_79 : decode b_Mod_jumpBy 79 = .ok (.iconst 4, 1) := by decide +kernel
theorem d_Mod_jumpBy_80 : decode b_Mod_jumpBy 80 = .ok (.invokevirtual 126, 3) := by decide +kernel
theorem d_Mod_jumpBy_83 : decode b_Mod_jumpBy 83 = .ok (.ifCond .ne 10, 3) := by decide +kernel
theorem d_Mod_jumpBy_86 : decode b_Mod_jumpBy 86 = .ok (.aload_n 0, 1) := by decide +kernel
theorem d_Mod_jumpBy_87 : decode b_Mod_jumpBy 87 = .ok (.iload_n 2, 1) := by decide +kernel
theorem d_Mod_jumpBy_88 : decode b_Mod_jumpBy 88 = .ok (.iconst 1, 1) := by decide +kernel
theorem d_Mod_jumpBy_89 : decode b_Mod_jumpBy 89 = .ok (.invokevirtual 208, 3) := by decide +kernel
theorem d_Mod_jumpBy_92 : decode b_Mod_jumpBy 92 = .ok (.ireturn, 1) := by decide +kernel
theorem d_Mod_jumpBy_93 : decode b_Mod_jumpBy 93 = .ok (.iload_n 3, 1) := by decide +kernel
theorem d_Mod_jumpBy_94 : decode b_Mod_jumpBy 94 = .ok (.iconst 3, 1) := by decide +kernel
theorem d_Mod_jumpBy_95 : decode b_Mod_jumpBy 95 = .ok (.iand, 1) := by decide +kernel
theorem d_Mod_jumpBy_96 : decode b_Mod_jumpBy 96 = .ok (.ifCond .eq 10, 3) := by decide +kernel
theorem d_Mod_jumpBy_99 : decode b_Mod_jumpBy 99 = .ok (.aload_n 0, 1) := by decide +kernel
theorem d_Mod_jumpBy_100 : decode b_Mod_jumpBy 100 = .ok (.iconst 0, 1) := by decide +kernel
theorem d_Mod_jumpBy_101 : decode b_Mod_jumpBy 101 = .ok (.iload_n 3, 1) := by decide +kernel
theorem d_Mod_jumpBy_102 : decode b_Mod_jumpBy 102 = .ok (.invokevirtual 159, 3) := by decide +kernel
theorem d_Mod_jumpBy_105 : decode b_Mod_jumpBy 105 = .ok (.ireturn, 1) := by decide +kernel
theorem d_Mod_jumpBy_106 : decode b_Mod_jumpBy 106 = .ok (.aload_n 0, 1) := by decide +kernel
theorem d_Mod_jumpBy_107 : decode b_Mod_jumpBy 107 = .ok (.invokevirtual 176, 3) := by decide +kernel
theorem d_Mod_jumpBy_110 : decode b_Mod_jumpBy 110 = .ok (.aload_n 0, 1) := by decide +kernel
theorem d_Mod_jumpBy_111 : decode b_Mod_jumpBy 111 = .ok (.bipush 37, 2) := by decide +kernel
theorem d_Mod_jumpBy_113 : decode b_Mod_jumpBy 113 = .ok (.aload_n 0, 1) := by decide +kernel
theorem d_Mod_jumpBy_114 : decode b_Mod_jumpBy 114 = .ok (.getfield 7, 3) := by decide +kernel
theorem d_Mod_jumpBy_117 : decode b_Mod_jumpBy 117 = .ok (.iload_n 2, 1) := by decide +kernel
theorem d_Mod_jumpBy_118 : decode b_Mod_jumpBy 118 = .ok (.baload, 1) := by decide +kernel
theorem d_Mod_jumpBy_119 : decode b_Mod_jumpBy 119 = .ok (.aload_n 0, 1) := by decide +kernel
theorem d_Mod_jumpBy_120 : decode b_Mod_jumpBy 120 = .ok (.getfield 13, 3) := by decide +kernel
theorem d_Mod_jumpBy_123 : decode b_Mod_jumpBy 123 = .ok (.iload_n 2, 1) := by decide +kernel
theorem d_Mod_jumpBy_124 : decode b_Mod_jumpBy 124 = .ok (.iaload, 1) := by decide +kernel
theorem d_Mod_jumpBy_125 : decode b_Mod_jumpBy 125 = .ok (.aload_n 0, 1) := by decide +kernel
theorem d_Mod_jumpBy_126 : decode b_Mod_jumpBy 126 = .ok (.getfield 17, 3) := by decide +kernel
theorem d_Mod_jumpBy_129 : decode b_Mod_jumpBy 129 = .ok (.iload_n 2, 1) := by decide +kernel
theorem d_Mod_jumpBy_130 : decode b_Mod_jumpBy 130 = .ok (.iaload, 1) := by decide +kernel
theorem d_Mod_jumpBy_131 : decode b_Mod_jumpBy 131 = .ok (.bipush 15, 2) := by decide +kernel
theorem d_Mod_jumpBy_133 : decode b_Mod_jumpBy 133 = .ok (.invokestatic 204, 3) := by decide +kernel
theorem d_Mod_jumpBy_136 : decode b_Mod_jumpBy 136 = .ok (.invokevirtual 100, 3) := by decide +kernel
theorem d_Mod_jumpBy_139 : decode b_Mod_jumpBy 139 = .ok (.aload_n 0, 1) := by decide +kernel
theorem d_Mod_jumpBy_140 : decode b_Mod_jumpBy 140 = .ok (.bipush 37, 2) := by decide +kernel
theorem d_Mod_jumpBy_142 : decode b_Mod_jumpBy 142 = .ok (.iload_n 3, 1) := by decide +kernel
theorem d_Mod_jumpBy_143 : decode b_Mod_jumpBy 143 = .ok (.bipush 32, 2) := by decide +kernel
theorem d_Mod_jumpBy_145 : decode b_Mod_jumpBy 145 = .ok (.invokevirtual 168, 3) := by decide +kernel
theorem d_Mod_jumpBy_148 : decode b_Mod_jumpBy 148 = .ok (.aload_n 0, 1) := by decide +kernel
theorem d_Mod_jumpBy_149 : decode b_Mod_jumpBy 149 = .ok (.bipush 38, 2) := by decide +kernel
theorem d_Mod_jumpBy_151 : decode b_Mod_jumpBy 151 = .ok (.iload_n 1, 1) := by decide +kernel
theorem d_Mod_jumpBy_152 : decode b_Mod_jumpBy 152 = .ok (.invokevirtual 139, 3) := by decide +kernel
theorem d_Mod_jumpBy_155 : decode b_Mod_jumpBy 155 = .ok (.iconst 0, 1) := by decide +kernel
theorem d_Mod_jumpBy_156 : decode b_Mod_jumpBy 156 = .ok (.ireturn, 1) := by decide +kernel
theorem d_Mod_broken_0 : decode b_Mod_broken 0 = .ok (.aload_n 0, 1) := by decide +kernel
theorem d_Mod_broken_1 : decode b_Mod_broken 1 = .ok (.bipush 28, 2) := by decide +kernel
theorem d_Mod_broken_3 : decode b_Mod_broken 3 = .ok (.bipush 32, 2) := by decide +kernel
theorem d_Mod_broken_5 : decode b_Mod_broken 5 = .ok (.iload_n 1, 1) := by decide +kernel
theorem d_Mod_broken_6 : decode b_Mod_broken 6 = .ok (.imul, 1) := by decide +kernel
theorem d_Mod_broken_7 : decode b_Mod_broken 7 = .ok (.iload_n 2, 1) := by decide +kernel
theorem d_Mod_broken_8 : decode b_Mod_broken 8 = .ok (.iadd, 1) := by decide +kernel
theorem d_Mod_broken_9 : decode b_Mod_broken 9 = .ok (.invokevirtual 159, 3) := by decide +kernel
theorem d_Mod_broken_12 : decode b_Mod_broken 12 = .ok (.ireturn, 1) := by decide +kernel
theorem d_Mod_load_0 : decode b_Mod_load 0 = .ok (.iload_n 2, 1) := by decide +kernel
theorem d_Mod_load_1 : decode b_Mod_load 1 = .ok (.iconst 3, 1) := by decide +kernel
theorem d_Mod_load_2 : decode b_Mod_load 2 = .ok (.if_icmp .ne 8, 3) := by decide +kernel
theorem d_Mod_load_5 : decode b_Mod_load 5 = .ok (.bipush 8, 2) := by decide +kernel
theorem d_Mod_load_7 : decode b_Mod_load 7 = .ok (.goto 8, 3) := by decide +kernel
theorem d_Mod_load_10 : decode b_Mod_load 10 = .ok (.iconst 1, 1) := by decide +kernel
theorem d_Mod_load_11 : decode b_Mod_load 11 = .ok (.iload_n 2, 1) := by decide +kernel
theorem d_Mod_load_12 : decode b_Mod_load 12 = .ok (.iconst 3, 1) := by decide +kernel
theorem d_Mod_load_13 : decode b_Mod_load 13 = .ok (.iand, 1) := by decide +kernel
theorem d_Mod_load_14 : decode b_Mod_load 14 = .ok (.ishl, 1) := by decide +kernel
theorem d_Mod_load_15 : decode b_Mod_load 15 = .ok (.istore 5, 2) := by decide +kernel
theorem d_Mod_load_17 : decode b_Mod_load 17 = .ok (.aload_n 0, 1) := by decide +kernel
theorem d_Mod_load_18 : decode b_Mod_load 18 = .ok (.iload_n 3, 1) := by decide +kernel
theorem d_Mod_load_19 : decode b_Mod_load 19 = .ok (.iload 4, 2) := by decide +kernel
theorem d_Mod_load_21 : decode b_Mod_load 21 = .ok (.invokestatic 58, 3) := by decide +kernel
theorem d_Mod_load_24 : decode b_Mod_load 24 = .ok (.iload 5, 2) := by decide +kernel
theorem d_Mod_load_26 : decode b_Mod_load 26 = .ok (.iconst 2, 1) := by decide +kernel
theorem d_Mod_load_27 : decode b_Mod_load 27 = .ok (.iconst 0, 1) := by decide +kernel
theorem d_Mod_load_28 : decode b_Mod_load 28 = .ok (.invokevirtual 130, 3) := by decide +kernel
theorem d_Mod_load_31 : decode b_Mod_load 31 = .ok (.istore 6, 2) := by decide +kernel
theorem d_Mod_load_33 : decode b_Mod_load 33 = .ok (.iload 6, 2) := by decide +kernel
theorem d_Mod_load_35 : decode b_Mod_load 35 = .ok (.ifCond .le 11, 3) := by decide +kernel
theorem d_Mod_load_38 : decode b_Mod_load 38 = .ok (.aload_n 0, 1) := by decide +kernel
theorem d_Mod_load_39 : decode b_Mod_load 39 = .ok (.iload_n 3, 1) := by decide +kernel
theorem d_Mod_load_40 : decode b_Mod_load 40 = .ok (.iload 6, 2) := by decide +kernel
theorem d_Mod_load_42 : decode b_Mod_load 42 = .ok (.invokevirtual 208, 3) := by decide +kernel
theorem d_Mod_load_45 : decode b_Mod_load 45 = .ok (.ireturn, 1) := by decide +kernel
theorem d_Mod_load_46 : decode b_Mod_load 46 = .ok (.iload 4, 2) := by decide +kernel
theorem d_Mod_load_48 : decode b_Mod_load 48 = .ok (.iload 5, 2) := by decide +kernel
theorem d_Mod_load_50 : decode b_Mod_load 50 = .ok (.irem, 1) := by decide +kernel
theorem d_Mod_load_51 : decode b_Mod_load 51 = .ok (.ifCond .eq 11, 3) := by decide +kernel
theorem d_Mod_load_54 : decode b_Mod_load 54 = .ok (.aload_n 0, 1) := by decide +kernel
theorem d_Mod_load_55 : decode b_Mod_load 55 = .ok (.iconst 4, 1) := by decide +kernel
theorem d_Mod_load_56 : decode b_Mod_load 56 = .ok (.iload 4, 2) := by decide +kernel
theorem d_Mod_load_58 : decode b_Mod_load 58 = .ok (.invokevirtual 159, 3) := by decide +kernel
theorem d_Mod_load_61 : decode b_Mod_load 61 = .ok (.ireturn, 1) := by decide +kernel
theorem d_Mod_load_62 : decode b_Mod_load 62 = .ok (.iload 4, 2) := by decide +kernel
theorem d_Mod_load_64 : decode b_Mod_load 64 = .ok (.invokestatic 58, 3) := by decide +kernel
theorem d_Mod_load_67 : decode b_Mod_load 67 = .ok (.ldc2_w 137, 3) := by decide +kernel
theorem d_Mod_load_70 : decode b_Mod_load 70 = .ok (.lcmp, 1) := by decide +kernel
theorem d_Mod_load_71 : decode b_Mod_load 71 = .ok (.ifCond .lt 11, 3) := by decide +kernel
theorem d_Mod_load_74 : decode b_Mod_load 74 = .ok (.aload_n 0, 1) := by decide +kernel
theorem d_Mod_load_75 : decode b_Mod_load 75 = .ok (.iconst 5, 1) := by decide +kernel
theorem d_Mod_load_76 : decode b_Mod_load 76 = .ok (.iload 4, 2) := by decide +kernel
theorem d_Mod_load_78 : decode b_Mod_load 78 = .ok (.invokevirtual 159, 3) := by decide +kernel
theorem d_Mod_load_81 : decode b_Mod_load 81 = .ok (.ireturn, 1) := by decide +kernel
theorem d_Mod_load_82 : decode b_Mod_load 82 = .ok (.iload_n 2, 1) := by decide +kernel
theorem d_Mod_load_83 : decode b_Mod_load 83 = .ok (.iconst 3, 1) := by decide +kernel
theorem d_Mod_load_84 : decode b_Mod_load 84 = .ok (.if_icmp .ne 60, 3) := by decide +kernel
theorem d_Mod_load_87 : decode b_Mod_load 87 = .ok (.aload_n 0, 1) := by decide +kernel
theorem d_Mod_load_88 : decode b_Mod_load 88 = .ok (.iload_n 1, 1) := by decide +kernel
theorem d_Mod_load_89 : decode b_Mod_load 89 = .ok (.aload_n 0, 1) := by decide +kernel
theorem d_Mod_load_90 : decode b_Mod_load 90 = .ok (.getfield 23, 3) := by decide +kernel
theorem d_Mod_load_93 : decode b_Mod_load 93 = .ok (.iload 4, 2) := by decide +kernel
theorem d_Mod_load_95 : decode b_Mod_load 95 = .ok (.bipush 8, 2) := by decide +kernel
theorem d_Mod_load_97 : decode b_Mod_load 97 = .ok (.idiv, 1) := by decide +kernel
theorem d_Mod_load_98 : decode b_Mod_load 98 = .ok (.baload, 1) := by decide +kernel
theorem d_Mod_load_99 : decode b_Mod_load 99 = .ok (.ifCond .eq 16, 3) := by decide +kernel
theorem d_Mod_load_102 : decode b_Mod_load 102 = .ok (.aload_n 0, 1) := by decide +kernel
theorem d_Mod_load_103 : decode b_Mod_load 103 = .ok (.iload_n 3, 1) := by decide +kernel
theorem d_Mod_load_104 : decode b_Mod_load 104 = .ok (.iconst 4, 1) := by decide +kernel
theorem d_Mod_load_105 : decode b_Mod_load 105 = .ok (.invokevirtual 122, 3) := by decide +kernel
theorem d_Mod_load_108 : decode b_Mod_load 108 = .ok (.ifCond .eq 7, 3) := by decide +kernel
theorem d_Mod_load_111 : decode b_Mod_load 111 = .ok (.iconst 1, 1) := by decide +kernel
theorem d_Mod_load_112 : decode b_Mod_load 112 = .ok (.goto 4, 3) := by decide +kernel
theorem d_Mod_load_115 : decode b_Mod_load 115 = .ok (.iconst 0, 1) := by decide +kernel
theorem d_Mod_load_116 : decode b_Mod_load 116 = .ok (.aload_n 0, 1) := by decide +kernel
theorem d_Mod_load_117 : decode b_Mod_load 117 = .ok (.getfield 20, 3) := by decide +kernel
theorem d_Mod_load_120 : decode b_Mod_load 120 = .ok (.iload 4, 2) := by decide +kernel
theorem d_Mod_load_122 : decode b_Mod_load 122 = .ok (.iconst 4, 1) := by decide +kernel
theorem d_Mod_load_123 : decode b_Mod_load 123 = .ok (.idiv, 1) := by decide +kernel
theorem d_Mod_load_124 : decode b_Mod_load 124 = .ok (.iaload, 1) := by decide +kernel
theorem d_Mod_load_125 : decode b_Mod_load 125 = .ok (.aload_n 0, 1) := by decide +kernel
theorem d_Mod_load_126 : decode b_Mod_load 126 = .ok (.getfield 20, 3) := by decide +kernel
theorem d_Mod_load_129 : decode b_Mod_load 129 = .ok (.iload 4, 2) := by decide +kernel
theorem d_Mod_load_131 : decode b_Mod_load 131 = .ok (.iconst 4, 1) := by decide +kernel
theorem d_Mod_load_132 : decode b_Mod_load 132 = .ok (.idiv, 1) := by decide +kernel
theorem d_Mod_load_133 : decode b_Mod_load 133 = .ok (.iconst 1, 1) := by decide +kernel
theorem d_Mod_load_134 : decode b_Mod_load 134 = .ok (.iadd, 1) := by decide +kernel
theorem d_Mod_load_135 : decode b_Mod_load 135 = .ok (.iaload, 1) := by decide +kernel
theorem d_Mod_load_136 : decode b_Mod_load 136 = .ok (.ldc 36, 2) := by decide +kernel
theorem d_Mod_load_138 : decode b_Mod_load 138 = .ok (.ixor, 1) := by decide +kernel
theorem d_Mod_load_139 : decode b_Mod_load 139 = .ok (.invokevirtual 100, 3) := by decide +kernel
theorem d_Mod_load_142 : decode b_Mod_load 142 = .ok (.iconst 1, 1) := by decide +kernel
theorem d_Mod_load_143 : decode b_Mod_load 143 = .ok (.ireturn, 1) := by decide +kernel
theorem d_Mod_load_144 : decode b_Mod_load 144 = .ok (.aload_n 0, 1) := by decide +kernel
theorem d_Mod_load_145 : decode b_Mod_load 145 = .ok (.getfield 20, 3) := by decide +kernel
theorem d_Mod_load_148 : decode b_Mod_load 148 = .ok (.iload 4, 2) := by decide +kernel
theorem d_Mod_load_150 : decode b_Mod_load 150 = .ok (.iconst 4, 1) := by decide +kernel
theorem d_Mod_load_151 : decode b_Mod_load 151 = .ok (.idiv, 1) := by decide +kernel
theorem d_Mod_load_152 : decode b_Mod_load 152 = .ok (.iaload, 1) := by decide +kernel
theorem d_Mod_load_153 : decode b_Mod_load 153 = .ok (.bipush 8, 2) := by decide +kernel
theorem d_Mod_load_155 : decode b_Mod_load 155 = .ok (.iload 4, 2) := by decide +kernel
theorem d_Mod_load_157 : decode b_Mod_load 157 = .ok (.iconst 3, 1) := by decide +kernel
theorem d_Mod_load_158 : decode b_Mod_load 158 = .ok (.iand, 1) := by decide +kernel
theorem d_Mod_load_159 : decode b_Mod_load 159 = .ok (.imul, 1) := by decide +kernel
theorem d_Mod_load_160 : decode b_Mod_load 160 = .ok (.iushr, 1) := by decide +kernel
theorem d_Mod_load_161 : decode b_Mod_load 161 = .ok (.istore 7, 2) := by decide +kernel
theorem d_Mod_load_163 : decode b_Mod_load 163 = .ok (.aload_n 0, 1) := by decide +kernel
theorem d_Mod_load_164 : decode b_Mod_load 164 = .ok (.iload_n 1, 1) := by decide +kernel
theorem d_Mod_load_165 : decode b_Mod_load 165 = .ok (.iload 5, 2) := by decide +kernel
theorem d_Mod_load_167 : decode b_Mod_load 167 = .ok (.iconst 4, 1) := by decide +kernel
theorem d_Mod_load_168 : decode b_Mod_load 168 = .ok (.if_icmp .ne 8, 3) := by decide +kernel
theorem d_Mod_load_171 : decode b_Mod_load 171 = .ok (.iload 7, 2) := by decide +kernel
theorem d_Mod_load_173 : decode b_Mod_load 173 = .ok (.goto 43, 3) := by decide +kernel
theorem d_Mod_load_176 : decode b_Mod_load 176 = .ok (.iload_n 2, 1) := by decide +kernel
theorem d_Mod_load_177 : decode b_Mod_load 177 = .ok (.iconst 3, 1) := by decide +kernel
theorem d_Mod_load_178 : decode b_Mod_load 178 = .ok (.if_icmp .le 18, 3) := by decide +kernel
theorem d_Mod_load_181 : decode b_Mod_load 181 = .ok (.iload 7, 2) := by decide +kernel
theorem d_Mod_load_183 : decode b_Mod_load 183 = .ok (.iconst 1, 1) := by decide +kernel
theorem d_Mod_load_184 : decode b_Mod_load 184 = .ok (.bipush 8, 2) := by decide +kernel
theorem d_Mod_load_186 : decode b_Mod_load 186 = .ok (.iload 5, 2) := by decide +kernel
theorem d_Mod_load_188 : decode b_Mod_load 188 = .ok (.imul, 1) := by decide +kernel
theorem d_Mod_load_189 : decode b_Mod_load 189 = .ok (.ishl, 1) := by decide +kernel
theorem d_Mod_load_190 : decode b_Mod_load 190 = .ok (.iconst 1, 1) := by decide +kernel
theorem d_Mod_load_191 : decode b_Mod_load 191 = .ok (.isub, 1) := by decide +kernel
theorem d_Mod_load_192 : decode b_Mod_load 192 = .ok (.iand, 1) := by decide +kernel
theorem d_Mod_load_193 : decode b_Mod_load 193 = .ok (.goto 23, 3) := by decide +kernel
theorem d_Mod_load_196 : decode b_Mod_load 196 = .ok (.iload 7, 2) := by decide +kernel
theorem d_Mod_load_198 : decode b_Mod_load 198 = .ok (.bipush 32, 2) := by decide +kernel
theorem d_Mod_load_200 : decode b_Mod_load 200 = .ok (.bipush 8, 2) := by decide +kernel
theorem d_Mod_load_202 : decode b_Mod_load 202 = .ok (.iload 5, 2) := by decide +kernel
theorem d_Mod_load_204 : decode b_Mod_load 204 = .ok (.imul, 1) := by decide +kernel
theorem d_Mod_load_205 : decode b_Mod_load 205 = .ok (.isub, 1) := by decide +kernel
theorem d_Mod_load_206 : decode b_Mod_load 206 = .ok (.ishl, 1) := by decide +kernel
theorem d_Mod_load_207 : decode b_Mod_load 207 = .ok (.bipush 32, 2) := by decide +kernel
theorem d_Mod_load_209 : decode b_Mod_load 209 = .ok (.bipush 8, 2) := by decide +kernel
theorem d_Mod_load_211 : decode b_Mod_load 211 = .ok (.iload 5, 2) := by decide +kernel
theorem d_Mod_load_213 : decode b_Mod_load 213 = .ok (.imul, 1) := by decide +kernel
theorem d_Mod_load_214 : decode b_Mod_load 214 = .ok (.isub, 1) := by decide +kernel
theorem d_Mod_load_215 : decode b_Mod_load 215 = .ok (.ishr, 1) := by decide +kernel
theorem d_Mod_load_216 : decode b_Mod_load 216 = .ok (.invokevirtual 172, 3) := by decide +kernel
theorem d_Mod_load_219 : decode b_Mod_load 219 = .ok (.iconst 1, 1) := by decide +kernel
theorem d_Mod_load_220 : decode b_Mod_load 220 = .ok (.ireturn, 1) := by decide +kernel
theorem d_Mod_store_0 : decode b_Mod_store 0 = .ok (.iconst 1, 1) := by decide +kernel
theorem d_Mod_store_1 : decode b_Mod_store 1 = .ok (.iload_n 1, 1) := by decide +kernel
theorem d_Mod_store_2 : decode b_Mod_store 2 = .ok (.ishl, 1) := by decide +kernel
theorem d_Mod_store_3 : decode b_Mod_store 3 = .ok (.istore 5, 2) := by decide +kernel
theorem d_Mod_store_5 : decode b_Mod_store 5 = .ok (.aload_n 0, 1) := by decide +kernel
theorem d_Mod_store_6 : decode b_Mod_store 6 = .ok (.iload_n 2, 1) := by decide +kernel
theorem d_Mod_store_7 : decode b_Mod_store 7 = .ok (.iload_n 3, 1) := by decide +kernel
theorem d_Mod_store_8 : decode b_Mod_store 8 = .ok (.invokestatic 58, 3) := by decide +kernel
theorem d_Mod_store_11 : decode b_Mod_store 11 = .ok (.iload 5, 2) := by decide +kernel
theorem d_Mod_store_13 : decode b_Mod_store 13 = .ok (.iconst 3, 1) := by decide +kernel
theorem d_Mod_store_14 : decode b_Mod_store 14 = .ok (.iload_n 1, 1) := by decide +kernel
theorem d_Mod_store_15 : decode b_Mod_store 15 = .ok (.iconst 3, 1) := by decide +kernel
theorem d_Mod_store_16 : decode b_Mod_store 16 = .ok (.if_icmp .ne 8, 3) := by decide +kernel
theorem d_Mod_store_19 : decode b_Mod_store 19 = .ok (.iload 4, 2) := by decide +kernel
theorem d_Mod_store_21 : decode b_Mod_store 21 = .ok (.goto 4, 3) := by decide +kernel
theorem d_Mod_store_24 : decode b_Mod_store 24 = .ok (.iconst 0, 1) := by decide +kernel
theorem d_Mod_store_25 : decode b_Mod_store 25 = .ok (.invokevirtual 130, 3) := by decide +kernel
theorem d_Mod_store_28 : decode b_Mod_store 28 = .ok (.istore 6, 2) := by decide +kernel
theorem d_Mod_store_30 : decode b_Mod_store 30 = .ok (.iload 6, 2) := by decide +kernel
theorem d_Mod_store_32 : decode b_Mod_store 32 = .ok (.ifCond .le 11, 3) := by decide +kernel
theorem d_Mod_store_35 : decode b_Mod_store 35 = .ok (.aload_n 0, 1) := by decide +kernel
theorem d_Mod_store_36 : decode b_Mod_store 36 = .ok (.iload_n 2, 1) := by decide +kernel
theorem d_Mod_store_37 : decode b_Mod_store 37 = .ok (.iload 6, 2) := by decide +kernel
theorem d_Mod_store_39 : decode b_Mod_store 39 = .ok (.invokevirtual 208, 3) := by decide +kernel
theorem d_Mod_store_42 : decode b_Mod_store 42 = .ok (.ireturn, 1) := by decide +kernel
theorem d_Mod_store_43 : decode b_Mod_store 43 = .ok (.iload_n 3, 1) := by decide +kernel
theorem d_Mod_store_44 : decode b_Mod_store 44 = .ok (.iload 5, 2) := by decide +kernel
theorem d_Mod_store_46 : decode b_Mod_store 46 = .ok (.irem, 1) := by decide +kernel
theorem d_Mod_store_47 : decode b_Mod_store 47 = .ok (.ifCond .eq 11, 3) := by decide +kernel
theorem d_Mod_store_50 : decode b_Mod_store 50 = .ok (.aload_n 0, 1) := by decide +kernel
theorem d_Mod_store_51 : decode b_Mod_store 51 = .ok (.bipush 6, 2) := by decide +kernel
theorem d_Mod_store_53 : decode b_Mod_store 53 = .ok (.iload_n 3, 1) := by decide +kernel
theorem d_Mod_store_54 : decode b_Mod_store 54 = .ok (.invokevirtual 159, 3) := by decide +kernel
theorem d_Mod_store_57 : decode b_Mod_store 57 = .ok (.ireturn, 1) := by decide +kernel
theorem d_Mod_store_58 : decode b_Mod_store 58 = .ok (.iload_n 3, 1) := by decide +kernel
theorem d_Mod_store_59 : decode b_Mod_store 59 = .ok (.invokestatic 58, 3) := by decide +kernel
theorem d_Mod_store_62 : decode b_Mod_store 62 = .ok (.ldc2_w 137, 3) := by decide +kernel
theorem d_Mod_store_65 : decode b_Mod_store 65 = .ok (.lcmp, 1) := by decide +kernel
theorem d_Mod_store_66 : decode b_Mod_store 66 = .ok (.ifCond .lt 11, 3) := by decide +kernel
theorem d_Mod_store_69 : decode b_Mod_store 69 = .ok (.aload_n 0, 1) := by decide +kernel
theorem d_Mod_store_70 : decode b_Mod_store 70 = .ok (.bipush 7, 2) := by decide +kernel
theorem d_Mod_store_72 : decode b_Mod_store 72 = .ok (.iload_n 3, 1) := by decide +kernel
theorem d_Mod_store_73 : decode b_Mod_store 73 = .ok (.invokevirtual 159, 3) := by decide +kernel
theorem d_Mod_store_76 : decode b_Mod_store 76 = .ok (.ireturn, 1) := by decide +kernel
theorem d_Mod_store_77 : decode b_Mod_store 77 = .ok (.iload_n 3, 1) := by decide +kernel
theorem d_Mod_store_78 : decode b_Mod_store 78 = .ok (.iconst 4, 1) := by decide +kernel
theorem d_Mod_store_79 : decode b_Mod_store 79 = .ok (.idiv, 1) := by decide +kernel
theorem d_Mod_store_80 : decode b_Mod_store 80 = .ok (.istore 7, 2) := by decide +kernel
theorem d_Mod_store_82 : decode b_Mod_store 82 = .ok (.iload_n 1, 1) := by decide +kernel
theorem d_Mod_store_83 : decode b_Mod_store 83 = .ok (.iconst 3, 1) := by decide +kernel
theorem d_Mod_store_84 : decode b_Mod_store 84 = .ok (.if_icmp .ne 39, 3) := by decide +kernel
theorem d_Mod_store_87 : decode b_Mod_store 87 = .ok (.aload_n 0, 1) := by decide +kernel
theorem d_Mod_store_88 : decode b_Mod_store 88 = .ok (.getfield 20, 3) := by decide +kernel
theorem d_Mod_store_91 : decode b_Mod_store 91 = .ok (.iload 7, 2) := by decide +kernel
theorem d_Mod_store_93 : decode b_Mod_store 93 = .ok (.aload_n 0, 1) := by decide +kernel
theorem d_Mod_store_94 : decode b_Mod_store 94 = .ok (.getfield 13, 3) := by decide +kernel
theorem d_Mod_store_97 : decode b_Mod_store 97 = .ok (.iload 4, 2) := by decide +kernel
theorem d_Mod_store_99 : decode b_Mod_store 99 = .ok (.iaload, 1) := by decide +kernel
theorem d_Mod_store_100 : decode b_Mod_store 100 = .ok (.iastore, 1) := by decide +kernel
theorem d_Mod_store_101 : decode b_Mod_store 101 = .ok (.aload_n 0, 1) := by decide +kernel
theorem d_Mod_store_102 : decode b_Mod_store 102 = .ok (.getfield 20, 3) := by decide +kernel
theorem d_Mod_store_105 : decode b_Mod_store 105 = .ok (.iload 7, 2) := by decide +kernel
theorem d_Mod_store_107 : decode b_Mod_store 107 = .ok (.iconst 1, 1) := by decide +kernel
theorem d_Mod_store_108 : decode b_Mod_store 108 = .ok (.iadd, 1) := by decide +kernel
theorem d_Mod_store_109 : decode b_Mod_store 109 = .ok (.aload_n 0, 1) := by decide +kernel
theorem d_Mod_store_110 : decode b_Mod_store 110 = .ok (.getfield 17, 3) := by decide +kernel
theorem d_Mod_store_113 : decode b_Mod_store 113 = .ok (.iload 4, 2) := by decide +kernel
theorem d_Mod_store_115 : decode b_Mod_store 115 = .ok (.iaload, 1) := by decide +kernel
theorem d_Mod_store_116 : decode b_Mod_store 116 = .ok (.ldc 36, 2) := by decide +kernel
theorem d_Mod_store_118 : decode b_Mod_store 118 = .ok (.ixor, 1) := by decide +kernel
theorem d_Mod_store_119 : decode b_Mod_store 119 = .ok (.iastore, 1) := by decide +kernel
theorem d_Mod_store_120 : decode b_Mod_store 120 = .ok (.goto 80, 3) := by decide +kernel
theorem d_Mod_store_123 : decode b_Mod_store 123 = .ok (.iload_n 1, 1) := by decide +kernel
theorem d_Mod_store_124 : decode b_Mod_store 124 = .ok (.iconst 2, 1) := by decide +kernel
theorem d_Mod_store_125 : decode b_Mod_store 125 = .ok (.if_icmp .ne 20, 3) := by decide +kernel
theorem d_Mod_store_128 : decode b_Mod_store 128 = .ok (.aload_n 0, 1) := by decide +kernel
theorem d_Mod_store_129 : decode b_Mod_store 129 = .ok (.getfield 20, 3) := by decide +kernel
theorem d_Mod_store_132 : decode b_Mod_store 132 = .ok (.iload 7, 2) := by decide +kernel
theorem d_Mod_store_134 : decode b_Mod_store 134 = .ok (.aload_n 0, 1) := by decide +kernel
theorem d_Mod_store_135 : decode b_Mod_store 135 = .ok (.getfield 13, 3) := by decide +kernel
theorem d_Mod_store_138 : decode b_Mod_store 138 = .ok (.iload 4, 2) := by decide +kernel
theorem d_Mod_store_140 : decode b_Mod_store 140 = .ok (.iaload, 1) := by decide +kernel
theorem d_Mod_store_141 : decode b_Mod_store 141 = .ok (.iastore, 1) := by decide +kernel
theorem d_Mod_store_142 : decode b_Mod_store 142 = .ok (.goto 58, 3) := by decide +kernel
theorem d_Mod_store_145 : decode b_Mod_store 145 = .ok (.iconst 1, 1) := by decide +kernel
theorem d_Mod_store_146 : decode b_Mod_store 146 = .ok (.bipush 8, 2) := by decide +kernel
theorem d_Mod_store_148 : decode b_Mod_store 148 = .ok (.iload 5, 2) := by decide +kernel
theorem d_Mod_store_150 : decode b_Mod_store 150 = .ok (.imul, 1) := by decide +kernel
theorem d_Mod_store_151 : decode b_Mod_store 151 = .ok (.ishl, 1) := by decide +kernel
theorem d_Mod_store_152 : decode b_Mod_store 152 = .ok (.iconst 1, 1) := by decide +kernel
theorem d_Mod_store_153 : decode b_Mod_store 153 = .ok (.isub, 1) := by decide +kernel
theorem d_Mod_store_154 : decode b_Mod_store 154 = .ok (.bipush 8, 2) := by decide +kernel
theorem d_Mod_store_156 : decode b_Mod_store 156 = .ok (.iload_n 3, 1) := by decide +kernel
theorem d_Mod_store_157 : decode b_Mod_store 157 = .ok (.iconst 3, 1) := by decide +kernel
theorem d_Mod_store_158 : decode b_Mod_store 158 = .ok (.iand, 1) := by decide +kernel
theorem d_Mod_store_159 : decode b_Mod_store 159 = .ok (.imul, 1) := by decide +kernel
theorem d_Mod_store_160 : decode b_Mod_store 160 = .ok (.ishl, 1) := by decide +kernel
theorem d_Mod_store_161 : decode b_Mod_store 161 = .ok (.istore 8, 2) := by decide +kernel
theorem d_Mod_store_163 : decode b_Mod_store 163 = .ok (.aload_n 0, 1) := by decide +kernel
theorem d_Mod_store_164 : decode b_Mod_store 164 = .ok (.getfield 20, 3) := by decide +kernel
theorem d_Mod_store_167 : decode b_Mod_store 167 = .ok (.iload 7, 2) := by decide +kernel
theorem d_Mod_store_169 : decode b_Mod_store 169 = .ok (.aload_n 0, 1) := by decide +kernel
theorem d_Mod_store_170 : decode b_Mod_store 170 = .ok (.getfield 20, 3) := by decide +kernel
theorem d_Mod_store_173 : decode b_Mod_store 173 = .ok (.iload 7, 2) := by decide +kernel
theorem d_Mod_store_175 : decode b_Mod_store 175 = .ok (.iaload, 1) := by decide +kernel
theorem d_Mod_store_176 : decode b_Mod_store 176 = .ok (.iload 8, 2) := by decide +kernel
theorem d_Mod_store_178 : decode b_Mod_store 178 = .ok (.iconst (-1), 1) := by decide +kernel
theorem d_Mod_store_179 : decode b_Mod_store 179 = .ok (.ixor, 1) := by decide +kernel
theorem d_Mod_store_180 : decode b_Mod_store 180 = .ok (.iand, 1) := by decide +kernel
theorem d_Mod_store_181 : decode b_Mod_store 181 = .ok (.aload_n 0, 1) := by decide +kernel
theorem d_Mod_store_182 : decode b_Mod_store 182 = .ok (.getfield 13, 3) := by decide +kernel
theorem d_Mod_store_185 : decode b_Mod_store 185 = .ok (.iload 4, 2) := by decide +kernel
theorem d_Mod_store_187 : decode b_Mod_store 187 = .ok (.iaload, 1) := by decide +kernel
theorem d_Mod_store_188 : decode b_Mod_store 188 = .ok (.bipush 8, 2) := by decide +kernel
theorem d_Mod_store_190 : decode b_Mod_store 190 = .ok (.iload_n 3, 1) := by decide +kernel
theorem d_Mod_store_191 : decode b_Mod_store 191 = .ok (.iconst 3, 1) := by decide +kernel
theorem d_Mod_store_192 : decode b_Mod_store 192 = .ok (.iand, 1) := by decide +kernel
theorem d_Mod_store_193 : decode b_Mod_store 193 = .ok (.imul, 1) := by decide +kernel
theorem d_Mod_store_194 : decode b_Mod_store 194 = .ok (.ishl, 1) := by decide +kernel
theorem d_Mod_store_195 : decode b_Mod_store 195 = .ok (.iload 8, 2) := by decide +kernel
theorem d_Mod_store_197 : decode b_Mod_store 197 = .ok (.iand, 1) := by decide +kernel
theorem d_Mod_store_198 : decode b_Mod_store 198 = .ok (.ior, 1) := by decide +kernel
theorem d_Mod_store_199 : decode b_Mod_store 199 = .ok (.iastore, 1) := by decide +kernel
theorem d_Mod_store_200 : decode b_Mod_store 200 = .ok (.aload_n 0, 1) := by decide +kernel
theorem d_Mod_store_201 : decode b_Mod_store 201 = .ok (.getfield 23, 3) := by decide +kernel
theorem d_Mod_store_204 : decode b_Mod_store 204 = .ok (.iload_n 3, 1) := by decide +kernel
theorem d_Mod_store_205 : decode b_Mod_store 205 = .ok (.bipush 8, 2) := by decide +kernel
theorem d_Mod_store_207 : decode b_Mod_store 207 = .ok (.idiv, 1) := by decide +kernel
theorem d_Mod_store_208 : decode b_Mod_store 208 = .ok (.iload_n 1, 1) := by decide +kernel
theorem d_Mod_store_209 : decode b_Mod_store 209 = .ok (.iconst 3, 1) := by decide +kernel
theorem d_Mod_store_210 : decode b_Mod_store 210 = .ok (.if_icmp .ne 17, 3) := by decide +kernel
theorem d_Mod_store_213 : decode b_Mod_store 213 = .ok (.aload_n 0, 1) := by decide +kernel
theorem d_Mod_store_214 : decode b_Mod_store 214 = .ok (.getfield 7, 3) := by decide +kernel
theorem d_Mod_store_217 : decode b_Mod_store 217 = .ok (.iload 4, 2) := by decide +kernel
theorem d_Mod_store_219 : decode b_Mod_store 219 = .ok (.baload, 1) := by decide +kernel
theorem d_Mod_store_220 : decode b_Mod_store 220 = .ok (.ifCond .eq 7, 3) := by decide +kernel
theorem d_Mod_store_223 : decode b_Mod_store 223 = .ok (.iconst 1, 1) := by decide +kernel
theorem d_Mod_store_224 : decode b_Mod_store 224 = .ok (.goto 4, 3) := by decide +kernel
theorem d_Mod_store_227 : decode b_Mod_store 227 = .ok (.iconst 0, 1) := by decide +kernel
theorem d_Mod_store_228 : decode b_Mod_store 228 = .ok (.bastore, 1) := by decide +kernel
theorem d_Mod_store_229 : decode b_Mod_store 229 = .ok (.iconst 1, 1) := by decide +kernel
theorem d_Mod_store_230 : decode b_Mod_store 230 = .ok (.ireturn, 1) := by decide +kernel
theorem d_Mod_operated_0 : decode b_Mod_operated 0 = .ok (.iload_n 0, 1) := by decide +kernel
theorem d_Mod_operated_1 : decode b_Mod_operated 1 = .ok (.tableswitch 111 0 6 #[43, 47, 54, 65, 83, 87, 107], 43) := by decide +kernel
theorem d_Mod_operated_44 : decode b_Mod_operated 44 = .ok (.iload_n 1, 1) := by decide +kernel
theorem d_Mod_operated_45 : decode b_Mod_operated 45 = .ok (.iload_n 2, 1) := by decide +kernel
theorem d_Mod_operated_46 : decode b_Mod_operated 46 = .ok (.iadd, 1) := by decide +kernel
theorem d_Mod_operated_47 : decode b_Mod_operated 47 = .ok (.ireturn, 1) := by decide +kernel
theorem d_Mod_operated_48 : decode b_Mod_operated 48 = .ok (.iload_n 1, 1) := by decide +kernel
theorem d_Mod_operated_49 : decode b_Mod_operated 49 = .ok (.iload_n 2, 1) := by decide +kernel
theorem d_Mod_operated_50 : decode b_Mod_operated 50 = .ok (.bipush 31, 2) := by decide +kernel
theorem d_Mod_operated_52 : decode b_Mod_operated 52 = .ok (.iand, 1) := by decide +kernel
theorem d_Mod_operated_53 : decode b_Mod_operated 53 = .ok (.ishl, 1) := by decide +kernel
theorem d_Mod_operated_54 : decode b_Mod_operated 54 = .ok (.ireturn, 1) := by decide +kernel
theorem d_Mod_operated_55 : decode b_Mod_operated 55 = .ok (.iload_n 1, 1) := by decide +kernel
theorem d_Mod_operated_56 : decode b_Mod_operated 56 = .ok (.iload_n 2, 1) := by decide +kernel
theorem d_Mod_operated_57 : decode b_Mod_operated 57 = .ok (.if_icmp .ge 7, 3) := by decide +kernel
theorem d_Mod_operated_60 : decode b_Mod_operated 60 = .ok (.iconst 1, 1) := by decide +kernel
theorem d_Mod_operated_61 : decode b_Mod_operated 61 = .ok (.goto 4, 3) := by decide +kernel
theorem d_Mod_operated_64 : decode b_Mod_operated 64 = .ok (.iconst 0, 1) := by decide +kernel
theorem d_Mod_operated_65 : decode b_Mod_operated 65 = .ok (.ireturn, 1) := by decide +kernel
theorem d_Mod_operated_66 : decode b_Mod_operated 66 = .ok (.iload_n 1, 1) := by decide +kernel
theorem d_Mod_operated_67 : decode b_Mod_operated 67 = .ok (.invokestatic 58, 3) := by decide +kernel
theorem d_Mod_operated_70 : decode b_Mod_operated 70 = .ok (.iload_n 2, 1) := by decide +kernel
theorem d_Mod_operated_71 : decode b_Mod_operated 71 = .ok (.invokestatic 58, 3) := by decide +kernel
theorem d_Mod_operated_74 : decode b_Mod_operated 74 = .ok (.lcmp, 1) := by decide +kernel
theorem d_Mod_operated_75 : decode b_Mod_operated 75 = .ok (.ifCond .ge 7, 3) := by decide +kernel
theorem d_Mod_operated_78 : decode b_Mod_operated 78 = .ok (.iconst 1, 1) := by decide +kernel
theorem d_Mod_operated_79 : decode b_Mod_operated 79 = .ok (.goto 4, 3) := by decide +kernel
theorem d_Mod_operated_82 : decode b_Mod_operated 82 = .ok (.iconst 0, 1) := by decide +kernel
theorem d_Mod_operated_83 : decode b_Mod_operated 83 = .ok (.ireturn, 1) := by decide +kernel
theorem d_Mod_operated_84 : decode b_Mod_operated 84 = .ok (.iload_n 1, 1) := by decide +kernel
theorem d_Mod_operated_85 : decode b_Mod_operated 85 = .ok (.iload_n 2, 1) := by decide +kernel
theorem d_Mod_operated_86 : decode b_Mod_operated 86 = .ok (.ixor, 1) := by decide +kernel
theorem d_Mod_operated_87 : decode b_Mod_operated 87 = .ok (.ireturn, 1) := by decide +kernel
theorem d_Mod_operated_88 : decode b_Mod_operated 88 = .ok (.iload_n 3, 1) := by decide +kernel
theorem d_Mod_operated_89 : decode b_Mod_operated 89 = .ok (.ifCond .eq 12, 3) := by decide +kernel
theorem d_Mod_operated_92 : decode b_Mod_operated 92 = .ok (.iload_n 1, 1) := by decide +kernel
theorem d_Mod_operated_93 : decode b_Mod_operated 93 = .ok (.iload_n 2, 1) := by decide +kernel
theorem d_Mod_operated_94 : decode b_Mod_operated 94 = .ok (.bipush 31, 2) := by decide +kernel
theorem d_Mod_operated_96 : decode b_Mod_operated 96 = .ok (.iand, 1) := by decide +kernel
theorem d_Mod_operated_97 : decode b_Mod_operated 97 = .ok (.ishr, 1) := by decide +kernel
theorem d_Mod_operated_98 : decode b_Mod_operated 98 = .ok (.goto 9, 3) := by decide +kernel
theorem d_Mod_operated_101 : decode b_Mod_operated 101 = .ok (.iload_n 1, 1) := by decide +kernel
theorem d_Mod_operated_102 : decode b_Mod_operated 102 = .ok (.iload_n 2, 1) := by decide +kernel
theorem d_Mod_operated_103 : decode b_Mod_operated 103 = .ok (.bipush 31, 2) := by decide +kernel
theorem d_Mod_operated_105 : decode b_Mod_operated 105 = .ok (.iand, 1) := by decide +kernel
theorem d_Mod_operated_106 : decode b_Mod_operated 106 = .ok (.iushr, 1) := by decide +kernel
theorem d_Mod_operated_107 : decode b_Mod_operated 107 = .ok (.ireturn, 1) := by decide +kernel
theorem d_Mod_operated_108 : decode b_Mod_operated 108 = .ok (.iload_n 1, 1) := by decide +kernel
theorem d_Mod_operated_109 : decode b_Mod_operated 109 = .ok (.iload_n 2, 1) := by decide +kernel
theorem d_Mod_operated_110 : decode b_Mod_operated 110 = .ok (.ior, 1) := by decide +kernel
theorem d_Mod_operated_111 : decode b_Mod_operated 111 = .ok (.ireturn, 1) := by decide +kernel
theorem d_Mod_operated_112 : decode b_Mod_operated 112 = .ok (.iload_n 1, 1) := by decide +kernel
theorem d_Mod_operated_113 : decode b_Mod_operated 113 = .ok (.iload_n 2, 1) := by decide +kernel
theorem d_Mod_operated_114 : decode b_Mod_operated 114 = .ok (.iand, 1) := by decide +kernel
theorem d_Mod_operated_115 : decode b_Mod_operated 115 = .ok (.ireturn, 1) := by decide +kernel
theorem d_Mod_system_0 : decode b_Mod_system 0 = .ok (.iload_n 1, 1) := by decide +kernel
theorem d_Mod_system_1 : decode b_Mod_system 1 = .ok (.bipush 115, 2) := by decide +kernel
theorem d_Mod_system_3 : decode b_Mod_system 3 = .ok (.if_icmp .ne 11, 3) := by decide +kernel
theorem d_Mod_system_6 : decode b_Mod_system 6 = .ok (.aload_n 0, 1) := by decide +kernel
theorem d_Mod_system_7 : decode b_Mod_system 7 = .ok (.bipush 11, 2) := by decide +kernel
theorem d_Mod_system_9 : decode b_Mod_system 9 = .ok (.iconst 0, 1) := by decide +kernel
theorem d_Mod_system_10 : decode b_Mod_system 10 = .ok (.invokevirtual 159, 3) := by decide +kernel
theorem d_Mod_system_13 : decode b_Mod_system 13 = .ok (.ireturn, 1) := by decide +kernel
theorem d_Mod_system_14 : decode b_Mod_system 14 = .ok (.iload_n 1, 1) := by decide +kernel
theorem d_Mod_system_15 : decode b_Mod_system 15 = .ok (.ldc 211, 2) := by decide +kernel
theorem d_Mod_system_17 : decode b_Mod_system 17 = .ok (.if_icmp .ne 10, 3) := by decide +kernel
theorem d_Mod_system_20 : decode b_Mod_system 20 = .ok (.aload_n 0, 1) := by decide +kernel
theorem d_Mod_system_21 : decode b_Mod_system 21 = .ok (.iconst 3, 1) := by decide +kernel
theorem d_Mod_system_22 : decode b_Mod_system 22 = .ok (.iconst 0, 1) := by decide +kernel
theorem d_Mod_system_23 : decode b_Mod_system 23 = .ok (.invokevirtual 159, 3) := by decide +kernel
theorem d_Mod_system_26 : decode b_Mod_system 26 = .ok (.ireturn, 1) := by decide +kernel
theorem d_Mod_system_27 : decode b_Mod_system 27 = .ok (.iload_n 1, 1) := by decide +kernel
theorem d_Mod_system_28 : decode b_Mod_system 28 = .ok (.bipush 20, 2) := by decide +kernel
theorem d_Mod_system_30 : decode b_Mod_system 30 = .ok (.iushr, 1) := by decide +kernel
theorem d_Mod_system_31 : decode b_Mod_system 31 = .ok (.istore 6, 2) := by decide +kernel
theorem d_Mod_system_33 : decode b_Mod_system 33 = .ok (.iload_n 1, 1) := by decide +kernel
theorem d_Mod_system_34 : decode b_Mod_system 34 = .ok (.ldc 212, 2) := by decide +kernel
theorem d_Mod_system_36 : decode b_Mod_system 36 = .ok (.if_icmp .ne 7, 3) := by decide +kernel
theorem d_Mod_system_39 : decode b_Mod_system 39 = .ok (.iconst 1, 1) := by decide +kernel
theorem d_Mod_system_40 : decode b_Mod_system 40 = .ok (.goto 4, 3) := by decide +kernel
theorem d_Mod_system_43 : decode b_Mod_system 43 = .ok (.iconst 0, 1) := by decide +kernel
theorem d_Mod_system_44 : decode b_Mod_system 44 = .ok (.istore 7, 2) := by decide +kernel
theorem d_Mod_system_46 : decode b_Mod_system 46 = .ok (.iload 7, 2) := by decide +kernel
theorem d_Mod_system_48 : decode b_Mod_system 48 = .ok (.ifCond .ne 35, 3) := by decide +kernel
theorem d_Mod_system_51 : decode b_Mod_system 51 = .ok (.iload_n 3, 1) := by decide +kernel
theorem d_Mod_system_52 : decode b_Mod_system 52 = .ok (.ifCond .eq 24, 3) := by decide +kernel
theorem d_Mod_system_55 : decode b_Mod_system 55 = .ok (.iload_n 3, 1) := by decide +kernel
theorem d_Mod_system_56 : decode b_Mod_system 56 = .ok (.iconst 4, 1) := by decide +kernel
theorem d_Mod_system_57 : decode b_Mod_system 57 = .ok (.if_icmp .eq 19, 3) := by decide +kernel
theorem d_Mod_system_60 : decode b_Mod_system 60 = .ok (.iload 6, 2) := by decide +kernel
theorem d_Mod_system_62 : decode b_Mod_system 62 = .ok (.sipush 834, 3) := by decide +kernel
theorem d_Mod_system_65 : decode b_Mod_system 65 = .ok (.if_icmp .eq 18, 3) := by decide +kernel
theorem d_Mod_system_68 : decode b_Mod_system 68 = .ok (.iload 6, 2) := by decide +kernel
theorem d_Mod_system_70 : decode b_Mod_system 70 = .ok (.sipush 835, 3) := by decide +kernel
theorem d_Mod_system_73 : decode b_Mod_system 73 = .ok (.if_icmp .eq 10, 3) := by decide +kernel
theorem d_Mod_system_76 : decode b_Mod_system 76 = .ok (.aload_n 0, 1) := by decide +kernel
theorem d_Mod_system_77 : decode b_Mod_system 77 = .ok (.iconst 2, 1) := by decide +kernel
theorem d_Mod_system_78 : decode b_Mod_system 78 = .ok (.iload_n 1, 1) := by decide +kernel
theorem d_Mod_system_79 : decode b_Mod_system 79 = .ok (.invokevirtual 159, 3) := by decide +kernel
theorem d_Mod_system_82 : decode b_Mod_system 82 = .ok (.ireturn, 1) := by decide +kernel
theorem d_Mod_system_83 : decode b_Mod_system 83 = .ok (.aload_n 0, 1) := by decide +kernel
theorem d_Mod_system_84 : decode b_Mod_system 84 = .ok (.bipush 32, 2) := by decide +kernel
theorem d_Mod_system_86 : decode b_Mod_system 86 = .ok (.bipush 10, 2) := by decide +kernel
theorem d_Mod_system_88 : decode b_Mod_system 88 = .ok (.invokevirtual 122, 3) := by decide +kernel
theorem d_Mod_system_91 : decode b_Mod_system 91 = .ok (.ifCond .ne 13, 3) := by decide +kernel
theorem d_Mod_system_94 : decode b_Mod_system 94 = .ok (.aload_n 0, 1) := by decide +kernel
theorem d_Mod_system_95 : decode b_Mod_system 95 = .ok (.bipush 28, 2) := by decide +kernel
theorem d_Mod_system_97 : decode b_Mod_system 97 = .ok (.sipush 1048, 3) := by decide +kernel
theorem d_Mod_system_100 : decode b_Mod_system 100 = .ok (.invokevirtual 159, 3) := by decide +kernel
theorem d_Mod_system_103 : decode b_Mod_system 103 = .ok (.ireturn, 1) := by decide +kernel
theorem d_Mod_system_104 : decode b_Mod_system 104 = .ok (.iload 7, 2) := by decide +kernel
theorem d_Mod_system_106 : decode b_Mod_system 106 = .ok (.ifCond .eq 47, 3) := by decide +kernel
theorem d_Mod_system_109 : decode b_Mod_system 109 = .ok (.aload_n 0, 1) := by decide +kernel
theorem d_Mod_system_110 : decode b_Mod_system 110 = .ok (.bipush 36, 2) := by decide +kernel
theorem d_Mod_system_112 : decode b_Mod_system 112 = .ok (.bipush 32, 2) := by decide +kernel
theorem d_Mod_system_114 : decode b_Mod_system 114 = .ok (.invokevirtual 139, 3) := by decide +kernel
theorem d_Mod_system_117 : decode b_Mod_system 117 = .ok (.aload_n 0, 1) := by decide +kernel
theorem d_Mod_system_118 : decode b_Mod_system 118 = .ok (.getfield 17, 3) := by decide +kernel
theorem d_Mod_system_121 : decode b_Mod_system 121 = .ok (.bipush 32, 2) := by decide +kernel
theorem d_Mod_system_123 : decode b_Mod_system 123 = .ok (.iaload, 1) := by decide +kernel
theorem d_Mod_system_124 : decode b_Mod_system 124 = .ok (.invokestatic 104, 3) := by decide +kernel
theorem d_Mod_system_127 : decode b_Mod_system 127 = .ok (.bipush 14, 2) := by decide +kernel
theorem d_Mod_system_129 : decode b_Mod_system 129 = .ok (.if_icmp .ne 22, 3) := by decide +kernel
theorem d_Mod_system_132 : decode b_Mod_system 132 = .ok (.aload_n 0, 1) := by decide +kernel
theorem d_Mod_system_133 : decode b_Mod_system 133 = .ok (.getfield 17, 3) := by decide +kernel
theorem d_Mod_system_136 : decode b_Mod_system 136 = .ok (.bipush 32, 2) := by decide +kernel
theorem d_Mod_system_138 : decode b_Mod_system 138 = .ok (.aload_n 0, 1) := by decide +kernel
theorem d_Mod_system_139 : decode b_Mod_system 139 = .ok (.getfield 17, 3) := by decide +kernel
theorem d_Mod_system_142 : decode b_Mod_system 142 = .ok (.bipush 32, 2) := by decide +kernel
theorem d_Mod_system_144 : decode b_Mod_system 144 = .ok (.iaload, 1) := by decide +kernel
theorem d_Mod_system_145 : decode b_Mod_system 145 = .ok (.bipush 15, 2) := by decide +kernel
theorem d_Mod_system_147 : decode b_Mod_system 147 = .ok (.invokestatic 204, 3) := by decide +kernel
theorem d_Mod_system_150 : decode b_Mod_system 150 = .ok (.iastore, 1) := by decide +kernel
theorem d_Mod_system_151 : decode b_Mod_system 151 = .ok (.iconst 0, 1) := by decide +kernel
theorem d_Mod_system_152 : decode b_Mod_system 152 = .ok (.ireturn, 1) := by decide +kernel
theorem d_Mod_system_153 : decode b_Mod_system 153 = .ok (.iload 6, 2) := by decide +kernel
theorem d_Mod_system_155 : decode b_Mod_system 155 = .ok (.sipush 834, 3) := by decide +kernel
theorem d_Mod_system_158 : decode b_Mod_system 158 = .ok (.if_icmp .ne 10, 3) := by decide +kernel
theorem d_Mod_system_161 : decode b_Mod_system 161 = .ok (.aload_n 0, 1) := by decide +kernel
theorem d_Mod_system_162 : decode b_Mod_system 162 = .ok (.getfield 143, 3) := by decide +kernel
theorem d_Mod_system_165 : decode b_Mod_system 165 = .ok (.goto 7, 3) := by decide +kernel
theorem d_Mod_system_168 : decode b_Mod_system 168 = .ok (.aload_n 0, 1) := by decide +kernel
theorem d_Mod_system_169 : decode b_Mod_system 169 = .ok (.getfield 146, 3) := by decide +kernel
theorem d_Mod_system_172 : decode b_Mod_system 172 = .ok (.istore 8, 2) := by decide +kernel
theorem d_Mod_system_174 : decode b_Mod_system 174 = .ok (.iload_n 3, 1) := by decide +kernel
theorem d_Mod_system_175 : decode b_Mod_system 175 = .ok (.iconst 4, 1) := by decide +kernel
theorem d_Mod_system_176 : decode b_Mod_system 176 = .ok (.if_icmp .le 8, 3) := by decide +kernel
theorem d_Mod_system_179 : decode b_Mod_system 179 = .ok (.iload 4, 2) := by decide +kernel
theorem d_Mod_system_181 : decode b_Mod_system 181 = .ok (.goto 10, 3) := by decide +kernel
theorem d_Mod_system_184 : decode b_Mod_system 184 = .ok (.aload_n 0, 1) := by decide +kernel
theorem d_Mod_system_185 : decode b_Mod_system 185 = .ok (.getfield 13, 3) := by decide +kernel
theorem d_Mod_system_188 : decode b_Mod_system 188 = .ok (.iload 4, 2) := by decide +kernel
theorem d_Mod_system_190 : decode b_Mod_system 190 = .ok (.iaload, 1) := by decide +kernel
theorem d_Mod_system_191 : decode b_Mod_system 191 = .ok (.istore 9, 2) := by decide +kernel
theorem d_Mod_system_193 : decode b_Mod_system 193 = .ok (.iload_n 3, 1) := by decide +kernel
theorem d_Mod_system_194 : decode b_Mod_system 194 = .ok (.iconst 3, 1) := by decide +kernel
theorem d_Mod_system_195 : decode b_Mod_system 195 = .ok (.iand, 1) := by decide +kernel
theorem d_Mod_system_196 : decode b_Mod_system 196 = .ok (.iconst 1, 1) := by decide +kernel
theorem d_Mod_system_197 : decode b_Mod_system 197 = .ok (.if_icmp .ne 8, 3) := by decide +kernel
theorem d_Mod_system_200 : decode b_Mod_system 200 = .ok (.iload 9, 2) := by decide +kernel
theorem d_Mod_system_202 : decode b_Mod_system 202 = .ok (.goto 25, 3) := by decide +kernel
theorem d_Mod_system_205 : decode b_Mod_system 205 = .ok (.iload_n 3, 1) := by decide +kernel
theorem d_Mod_system_206 : decode b_Mod_system 206 = .ok (.iconst 3, 1) := by decide +kernel
theorem d_Mod_system_207 : decode b_Mod_system 207 = .ok (.iand, 1) := by decide +kernel
theorem d_Mod_system_208 : decode b_Mod_system 208 = .ok (.iconst 2, 1) := by decide +kernel
theorem d_Mod_system_209 : decode b_Mod_system 209 = .ok (.if_icmp .ne 11, 3) := by decide +kernel
theorem d_Mod_system_212 : decode b_Mod_system 212 = .ok (.iload 8, 2) := by decide +kernel
theorem d_Mod_system_214 : decode b_Mod_system 214 = .ok (.iload 9, 2) := by decide +kernel
theorem d_Mod_system_216 : decode b_Mod_system 216 = .ok (.ior, 1) := by decide +kernel
theorem d_Mod_system_217 : decode b_Mod_system 217 = .ok (.goto 10, 3) := by decide +kernel
theorem d_Mod_system_220 : decode b_Mod_system 220 = .ok (.iload 8, 2) := by decide +kernel
theorem d_Mod_system_222 : decode b_Mod_system 222 = .ok (.iload 9, 2) := by decide +kernel
theorem d_Mod_system_224 : decode b_Mod_system 224 = .ok (.iconst (-1), 1) := by decide +kernel
theorem d_Mod_system_225 : decode b_Mod_system 225 = .ok (.ixor, 1) := by decide +kernel
theorem d_Mod_system_226 : decode b_Mod_system 226 = .ok (.iand, 1) := by decide +kernel
theorem d_Mod_system_227 : decode b_Mod_system 227 = .ok (.istore 10, 2) := by decide +kernel
theorem d_Mod_system_229 : decode b_Mod_system 229 = .ok (.iload 6, 2) := by decide +kernel
theorem d_Mod_system_231 : decode b_Mod_system 231 = .ok (.sipush 834, 3) := by decide +kernel
theorem d_Mod_system_234 : decode b_Mod_system 234 = .ok (.if_icmp .ne 12, 3) := by decide +kernel
theorem d_Mod_system_237 : decode b_Mod_system 237 = .ok (.aload_n 0, 1) := by decide +kernel
theorem d_Mod_system_238 : decode b_Mod_system 238 = .ok (.iload 10, 2) := by decide +kernel
theorem d_Mod_system_240 : decode b_Mod_system 240 = .ok (.putfield 143, 3) := by decide +kernel
theorem d_Mod_system_243 : decode b_Mod_system 243 = .ok (.goto 9, 3) := by decide +kernel
theorem d_Mod_system_246 : decode b_Mod_system 246 = .ok (.aload_n 0, 1) := by decide +kernel
theorem d_Mod_system_247 : decode b_Mod_system 247 = .ok (.iload 10, 2) := by decide +kernel
theorem d_Mod_system_249 : decode b_Mod_system 249 = .ok (.putfield 146, 3) := by decide +kernel
theorem d_Mod_system_252 : decode b_Mod_system 252 = .ok (.aload_n 0, 1) := by decide +kernel
theorem d_Mod_system_253 : decode b_Mod_system 253 = .ok (.iload_n 2, 1) := by decide +kernel
theorem d_Mod_system_254 : decode b_Mod_system 254 = .ok (.iload 8, 2) := by decide +kernel
theorem d_Mod_system_256 : decode b_Mod_system 256 = .ok (.invokevirtual 172, 3) := by decide +kernel
theorem d_Mod_system_259 : decode b_Mod_system 259 = .ok (.iconst 1, 1) := by decide +kernel
theorem d_Mod_system_260 : decode b_Mod_system 260 = .ok (.ireturn, 1) := by decide +kernel
theorem d_Mod_special_0 : decode b_Mod_special 0 = .ok (.aload_n 0, 1) := by decide +kernel
theorem d_Mod_special_1 : decode b_Mod_special 1 = .ok (.getfield 13, 3) := by decide +kernel
theorem d_Mod_special_4 : decode b_Mod_special 4 = .ok (.iload 4, 2) := by decide +kernel
theorem d_Mod_special_6 : decode b_Mod_special 6 = .ok (.iaload, 1) := by decide +kernel
theorem d_Mod_special_7 : decode b_Mod_special 7 = .ok (.istore 7, 2) := by decide +kernel
theorem d_Mod_special_9 : decode b_Mod_special 9 = .ok (.aload_n 0, 1) := by decide +kernel
theorem d_Mod_special_10 : decode b_Mod_special 10 = .ok (.getfield 13, 3) := by decide +kernel
theorem d_Mod_special_13 : decode b_Mod_special 13 = .ok (.iload 5, 2) := by decide +kernel
theorem d_Mod_special_15 : decode b_Mod_special 15 = .ok (.iaload, 1) := by decide +kernel
theorem d_Mod_special_16 : decode b_Mod_special 16 = .ok (.istore 8, 2) := by decide +kernel
theorem d_Mod_special_18 : decode b_Mod_special 18 = .ok (.aload_n 0, 1) := by decide +kernel
theorem d_Mod_special_19 : decode b_Mod_special 19 = .ok (.getfield 17, 3) := by decide +kernel
theorem d_Mod_special_22 : decode b_Mod_special 22 = .ok (.iload 4, 2) := by decide +kernel
theorem d_Mod_special_24 : decode b_Mod_special 24 = .ok (.iaload, 1) := by decide +kernel
theorem d_Mod_special_25 : decode b_Mod_special 25 = .ok (.istore 9, 2) := by decide +kernel
theorem d_Mod_special_27 : decode b_Mod_special 27 = .ok (.iload_n 3, 1) := by decide +kernel
theorem d_Mod_special_28 : decode b_Mod_special 28 = .ok (.iconst 1, 1) := by decide +kernel
theorem d_Mod_special_29 : decode b_Mod_special 29 = .ok (.if_icmp .ne 27, 3) := by decide +kernel
theorem d_Mod_special_32 : decode b_Mod_special 32 = .ok (.aload_n 0, 1) := by decide +kernel
theorem d_Mod_special_33 : decode b_Mod_special 33 = .ok (.iload 4, 2) := by decide +kernel
theorem d_Mod_special_35 : decode b_Mod_special 35 = .ok (.iload 7, 2) := by decide +kernel
theorem d_Mod_special_37 : decode b_Mod_special 37 = .ok (.iload_n 1, 1) := by decide +kernel
theorem d_Mod_special_38 : decode b_Mod_special 38 = .ok (.bipush 20, 2) := by decide +kernel
theorem d_Mod_special_40 : decode b_Mod_special 40 = .ok (.ishr, 1) := by decide +kernel
theorem d_Mod_special_41 : decode b_Mod_special 41 = .ok (.iadd, 1) := by decide +kernel
theorem d_Mod_special_42 : decode b_Mod_special 42 = .ok (.bipush 37, 2) := by decide +kernel
theorem d_Mod_special_44 : decode b_Mod_special 44 = .ok (.invokevirtual 168, 3) := by decide +kernel
theorem d_Mod_special_47 : decode b_Mod_special 47 = .ok (.aload_n 0, 1) := by decide +kernel
theorem d_Mod_special_48 : decode b_Mod_special 48 = .ok (.bipush 37, 2) := by decide +kernel
theorem d_Mod_special_50 : decode b_Mod_special 50 = .ok (.iload_n 2, 1) := by decide +kernel
theorem d_Mod_special_51 : decode b_Mod_special 51 = .ok (.invokevirtual 139, 3) := by decide +kernel
theorem d_Mod_special_54 : decode b_Mod_special 54 = .ok (.iconst 1, 1) := by decide +kernel
theorem d_Mod_special_55 : decode b_Mod_special 55 = .ok (.ireturn, 1) := by decide +kernel
theorem d_Mod_special_56 : decode b_Mod_special 56 = .ok (.iload_n 3, 1) := by decide +kernel
theorem d_Mod_special_57 : decode b_Mod_special 57 = .ok (.iconst 2, 1) := by decide +kernel
theorem d_Mod_special_58 : decode b_Mod_special 58 = .ok (.if_icmp .ne 17, 3) := by decide +kernel
theorem d_Mod_special_61 : decode b_Mod_special 61 = .ok (.aload_n 0, 1) := by decide +kernel
theorem d_Mod_special_62 : decode b_Mod_special 62 = .ok (.iload_n 2, 1) := by decide +kernel
theorem d_Mod_special_63 : decode b_Mod_special 63 = .ok (.iload 4, 2) := by decide +kernel
theorem d_Mod_special_65 : decode b_Mod_special 65 = .ok (.iload_n 1, 1) := by decide +kernel
theorem d_Mod_special_66 : decode b_Mod_special 66 = .ok (.bipush 20, 2) := by decide +kernel
theorem d_Mod_special_68 : decode b_Mod_special 68 = .ok (.iushr, 1) := by decide +kernel
theorem d_Mod_special_69 : decode b_Mod_special 69 = .ok (.i2l, 1) := by decide +kernel
theorem d_Mod_special_70 : decode b_Mod_special 70 = .ok (.iconst 0, 1) := by decide +kernel
theorem d_Mod_special_71 : decode b_Mod_special 71 = .ok (.invokevirtual 217, 3) := by decide +kernel
theorem d_Mod_special_74 : decode b_Mod_special 74 = .ok (.ireturn, 1) := by decide +kernel
theorem d_Mod_special_75 : decode b_Mod_special 75 = .ok (.iload_n 3, 1) := by decide +kernel
theorem d_Mod_special_76 : decode b_Mod_special 76 = .ok (.ifCond .eq 10, 3) := by decide +kernel
theorem d_Mod_special_79 : decode b_Mod_special 79 = .ok (.aload_n 0, 1) := by decide +kernel
theorem d_Mod_special_80 : decode b_Mod_special 80 = .ok (.iconst 2, 1) := by decide +kernel
theorem d_Mod_special_81 : decode b_Mod_special 81 = .ok (.iload_n 1, 1) := by decide +kernel
theorem d_Mod_special_82 : decode b_Mod_special 82 = .ok (.invokevirtual 159, 3) := by decide +kernel
theorem d_Mod_special_85 : decode b_Mod_special 85 = .ok (.ireturn, 1) := by decide +kernel
theorem d_Mod_special_86 : decode b_Mod_special 86 = .ok (.aload_n 0, 1) := by decide +kernel
theorem d_Mod_special_87 : decode b_Mod_special 87 = .ok (.iload 5, 2) := by decide +kernel
theorem d_Mod_special_89 : decode b_Mod_special 89 = .ok (.invokevirtual 118, 3) := by decide +kernel
theorem d_Mod_special_92 : decode b_Mod_special 92 = .ok (.istore 10, 2) := by decide +kernel
theorem d_Mod_special_94 : decode b_Mod_special 94 = .ok (.aload_n 0, 1) := by decide +kernel
theorem d_Mod_special_95 : decode b_Mod_special 95 = .ok (.getfield 17, 3) := by decide +kernel
theorem d_Mod_special_98 : decode b_Mod_special 98 = .ok (.iload 5, 2) := by decide +kernel
theorem d_Mod_special_100 : decode b_Mod_special 100 = .ok (.iaload, 1) := by decide +kernel
theorem d_Mod_special_101 : decode b_Mod_special 101 = .ok (.iload 8, 2) := by decide +kernel
theorem d_Mod_special_103 : decode b_Mod_special 103 = .ok (.iload 8, 2) := by decide +kernel
theorem d_Mod_special_105 : decode b_Mod_special 105 = .ok (.invokestatic 58, 3) := by decide +kernel
theorem d_Mod_special_108 : decode b_Mod_special 108 = .ok (.iconst 1, 1) := by decide +kernel
theorem d_Mod_special_109 : decode b_Mod_special 109 = .ok (.invokestatic 114, 3) := by decide +kernel
theorem d_Mod_special_112 : decode b_Mod_special 112 = .ok (.istore 11, 2) := by decide +kernel
theorem d_Mod_special_114 : decode b_Mod_special 114 = .ok (.iload 6, 2) := by decide +kernel
theorem d_Mod_special_116 : decode b_Mod_special 116 = .ok (.lookupswitch 809 #[(1, 132), (8, 235), (9, 249), (11, 263), (12, 351), (13, 464), (15, 512), (16, 534), (17, 547), (20, 563), (22, 577), (29, 594), (32, 711), (126, 764), (127, 787)], 132) := by decide +kernel
theorem d_Mod_special_248 : decode b_Mod_special 248 = .ok (.iload 5, 2) := by decide +kernel
theorem d_Mod_special_250 : decode b_Mod_special 250 = .ok (.ifCond .ne 8, 3) := by decide +kernel
theorem d_Mod_special_253 : decode b_Mod_special 253 = .ok (.bipush 32, 2) := by decide +kernel
theorem d_Mod_special_255 : decode b_Mod_special 255 = .ok (.goto 18, 3) := by decide +kernel
theorem d_Mod_special_258 : decode b_Mod_special 258 = .ok (.iload 5, 2) := by decide +kernel
theorem d_Mod_special_260 : decode b_Mod_special 260 = .ok (.bipush 28, 2) := by decide +kernel
theorem d_Mod_special_262 : decode b_Mod_special 262 = .ok (.if_icmp .lt 10, 3) := by decide +kernel
theorem d_Mod_special_265 : decode b_Mod_special 265 = .ok (.iload 5, 2) := by decide +kernel
theorem d_Mod_special_267 : decode b_Mod_special 267 = .ok (.iconst 5, 1) := by decide +kernel
theorem d_Mod_special_268 : decode b_Mod_special 268 = .ok (.iadd, 1) := by decide +kernel
theorem d_Mod_special_269 : decode b_Mod_special 269 = .ok (.goto 4, 3) := by decide +kernel
theorem d_Mod_special_272 : decode b_Mod_special 272 = .ok (.iconst 0, 1) := by decide +kernel
theorem d_Mod_special_273 : decode b_Mod_special 273 = .ok (.istore 12, 2) := by decide +kernel
theorem d_Mod_special_275 : decode b_Mod_special 275 = .ok (.iload 12, 2) := by decide +kernel
theorem d_Mod_special_277 : decode b_Mod_special 277 = .ok (.ifCond .eq 15, 3) := by decide +kernel
theorem d_Mod_special_280 : decode b_Mod_special 280 = .ok (.iload 12, 2) := by decide +kernel
theorem d_Mod_special_282 : decode b_Mod_special 282 = .ok (.bipush 32, 2) := by decide +kernel
theorem d_Mod_special_284 : decode b_Mod_special 284 = .ok (.if_icmp .ne 15, 3) := by decide +kernel
theorem d_Mod_special_287 : decode b_Mod_special 287 = .ok (.iload 4, 2) := by decide +kernel
theorem d_Mod_special_289 : decode b_Mod_special 289 = .ok (.ifCond .eq 10, 3) := by decide +kernel
theorem d_Mod_special_292 : decode b_Mod_special 292 = .ok (.aload_n 0, 1) := by decide +kernel
theorem d_Mod_special_293 : decode b_Mod_special 293 = .ok (.iconst 2, 1) := by decide +kernel
theorem d_Mod_special_294 : decode b_Mod_special 294 = .ok (.iload_n 1, 1) := by decide +kernel
theorem d_Mod_special_295 : decode b_Mod_special 295 = .ok (.invokevirtual 159, 3) := by decide +kernel
theorem d_Mod_special_298 : decode b_Mod_special 298 = .ok (.ireturn, 1) := by decide +kernel
theorem d_Mod_special_299 : decode b_Mod_special 299 = .ok (.iload 12, 2) := by decide +kernel
theorem d_Mod_special_301 : decode b_Mod_special 301 = .ok (.bipush 32, 2) := by decide +kernel
theorem d_Mod_special_303 : decode b_Mod_special 303 = .ok (.if_icmp .eq 24, 3) := by decide +kernel
theorem d_Mod_special_306 : decode b_Mod_special 306 = .ok (.aload_n 0, 1) := by decide +kernel
theorem d_Mod_special_307 : decode b_Mod_special 307 = .ok (.bipush 32, 2) := by decide +kernel
theorem d_Mod_special_309 : decode b_Mod_special 309 = .ok (.bipush 10, 2) := by decide +kernel
theorem d_Mod_special_311 : decode b_Mod_special 311 = .ok (.invokevirtual 122, 3) := by decide +kernel
theorem d_Mod_special_314 : decode b_Mod_special 314 = .ok (.ifCond .ne 13, 3) := by decide +kernel
theorem d_Mod_special_317 : decode b_Mod_special 317 = .ok (.aload_n 0, 1) := by decide +kernel
theorem d_Mod_special_318 : decode b_Mod_special 318 = .ok (.bipush 28, 2) := by decide +kernel
theorem d_Mod_special_320 : decode b_Mod_special 320 = .ok (.sipush 1048, 3) := by decide +kernel
theorem d_Mod_special_323 : decode b_Mod_special 323 = .ok (.invokevirtual 159, 3) := by decide +kernel
theorem d_Mod_special_326 : decode b_Mod_special 326 = .ok (.ireturn, 1) := by decide +kernel
theorem d_Mod_special_327 : decode b_Mod_special 327 = .ok (.aload_n 0, 1) := by decide +kernel
theorem d_Mod_special_328 : decode b_Mod_special 328 = .ok (.iload 12, 2) := by decide +kernel
theorem d_Mod_special_330 : decode b_Mod_special 330 = .ok (.bipush 37, 2) := by decide +kernel
theorem d_Mod_special_332 : decode b_Mod_special 332 = .ok (.invokevirtual 139, 3) := by decide +kernel
theorem d_Mod_special_335 : decode b_Mod_special 335 = .ok (.iload 4, 2) := by decide +kernel
theorem d_Mod_special_337 : decode b_Mod_special 337 = .ok (.ifCond .eq 595, 3) := by decide +kernel
theorem d_Mod_special_340 : decode b_Mod_special 340 = .ok (.aload_n 0, 1) := by decide +kernel
theorem d_Mod_special_341 : decode b_Mod_special 341 = .ok (.iload 4, 2) := by decide +kernel
theorem d_Mod_special_343 : decode b_Mod_special 343 = .ok (.iload 12, 2) := by decide +kernel
theorem d_Mod_special_345 : decode b_Mod_special 345 = .ok (.invokevirtual 139, 3) := by decide +kernel
theorem d_Mod_special_348 : decode b_Mod_special 348 = .ok (.goto 584, 3) := by decide +kernel
theorem d_Mod_special_351 : decode b_Mod_special 351 = .ok (.aload_n 0, 1) := by decide +kernel
theorem d_Mod_special_352 : decode b_Mod_special 352 = .ok (.iload_n 2, 1) := by decide +kernel
theorem d_Mod_special_353 : decode b_Mod_special 353 = .ok (.iload 4, 2) := by decide +kernel
theorem d_Mod_special_355 : decode b_Mod_special 355 = .ok (.iload 8, 2) := by decide +kernel
theorem d_Mod_special_357 : decode b_Mod_special 357 = .ok (.invokestatic 58, 3) := by decide +kernel
theorem d_Mod_special_360 : decode b_Mod_special 360 = .ok (.iconst 0, 1) := by decide +kernel
theorem d_Mod_special_361 : decode b_Mod_special 361 = .ok (.invokevirtual 217, 3) := by decide +kernel
theorem d_Mod_special_364 : decode b_Mod_special 364 = .ok (.ireturn, 1) := by decide +kernel
theorem d_Mod_special_365 : decode b_Mod_special 365 = .ok (.aload_n 0, 1) := by decide +kernel
theorem d_Mod_special_366 : decode b_Mod_special 366 = .ok (.iload_n 2, 1) := by decide +kernel
theorem d_Mod_special_367 : decode b_Mod_special 367 = .ok (.iload 4, 2) := by decide +kernel
theorem d_Mod_special_369 : decode b_Mod_special 369 = .ok (.iload 8, 2) := by decide +kernel
theorem d_Mod_special_371 : decode b_Mod_special 371 = .ok (.invokestatic 58, 3) := by decide +kernel
theorem d_Mod_special_374 : decode b_Mod_special 374 = .ok (.iconst 1, 1) := by decide +kernel
theorem d_Mod_special_375 : decode b_Mod_special 375 = .ok (.invokevirtual 217, 3) := by decide +kernel
theorem d_Mod_special_378 : decode b_Mod_special 378 = .ok (.ireturn, 1) := by decide +kernel
theorem d_Mod_special_379 : decode b_Mod_special 379 = .ok (.aload_n 0, 1) := by decide +kernel
theorem d_Mod_special_380 : decode b_Mod_special 380 = .ok (.bipush 37, 2) := by decide +kernel
theorem d_Mod_special_382 : decode b_Mod_special 382 = .ok (.aload_n 0, 1) := by decide +kernel
theorem d_Mod_special_383 : decode b_Mod_special 383 = .ok (.getfield 7, 3) := by decide +kernel
theorem d_Mod_special_386 : decode b_Mod_special 386 = .ok (.iload 4, 2) := by decide +kernel
theorem d_Mod_special_388 : decode b_Mod_special 388 = .ok (.baload, 1) := by decide +kernel
theorem d_Mod_special_389 : decode b_Mod_special 389 = .ok (.ifCond .eq 59, 3) := by decide +kernel
theorem d_Mod_special_392 : decode b_Mod_special 392 = .ok (.aload_n 0, 1) := by decide +kernel
theorem d_Mod_special_393 : decode b_Mod_special 393 = .ok (.getfield 7, 3) := by decide +kernel
theorem d_Mod_special_396 : decode b_Mod_special 396 = .ok (.iload 5, 2) := by decide +kernel
theorem d_Mod_special_398 : decode b_Mod_special 398 = .ok (.baload, 1) := by decide +kernel
theorem d_Mod_special_399 : decode b_Mod_special 399 = .ok (.ifCond .eq 49, 3) := by decide +kernel
theorem d_Mod_special_402 : decode b_Mod_special 402 = .ok (.aload_n 0, 1) := by decide +kernel
theorem d_Mod_special_403 : decode b_Mod_special 403 = .ok (.iload 4, 2) := by decide +kernel
theorem d_Mod_special_405 : decode b_Mod_special 405 = .ok (.invokevirtual 118, 3) := by decide +kernel
theorem d_Mod_special_408 : decode b_Mod_special 408 = .ok (.ifCond .eq 40, 3) := by decide +kernel
theorem d_Mod_special_411 : decode b_Mod_special 411 = .ok (.iload 10, 2) := by decide +kernel
theorem d_Mod_special_413 : decode b_Mod_special 413 = .ok (.ifCond .eq 35, 3) := by decide +kernel
theorem d_Mod_special_416 : decode b_Mod_special 416 = .ok (.aload_n 0, 1) := by decide +kernel
theorem d_Mod_special_417 : decode b_Mod_special 417 = .ok (.iload 5, 2) := by decide +kernel
theorem d_Mod_special_419 : decode b_Mod_special 419 = .ok (.bipush 7, 2) := by decide +kernel
theorem d_Mod_special_421 : decode b_Mod_special 421 = .ok (.invokevirtual 122, 3) := by decide +kernel
theorem d_Mod_special_424 : decode b_Mod_special 424 = .ok (.ifCond .eq 24, 3) := by decide +kernel
theorem d_Mod_special_427 : decode b_Mod_special 427 = .ok (.iload 11, 2) := by decide +kernel
theorem d_Mod_special_429 : decode b_Mod_special 429 = .ok (.ifCond .eq 19, 3) := by decide +kernel
theorem d_Mod_special_432 : decode b_Mod_special 432 = .ok (.iload 8, 2) := by decide +kernel
theorem d_Mod_special_434 : decode b_Mod_special 434 = .ok (.invokestatic 58, 3) := by decide +kernel
theorem d_Mod_special_437 : decode b_Mod_special 437 = .ok (.ldc2_w 221, 3) := by decide +kernel
theorem d_Mod_special_440 : decode b_Mod_special 440 = .ok (.lcmp, 1) := by decide +kernel
theorem d_Mod_special_441 : decode b_Mod_special 441 = .ok (.ifCond .ge 7, 3) := by decide +kernel
theorem d_Mod_special_444 : decode b_Mod_special 444 = .ok (.iconst 1, 1) := by decide +kernel
theorem d_Mod_special_445 : decode b_Mod_special 445 = .ok (.goto 4, 3) := by decide +kernel
theorem d_Mod_special_448 : decode b_Mod_special 448 = .ok (.iconst 0, 1) := by decide +kernel
theorem d_Mod_special_449 : decode b_Mod_special 449 = .ok (.iload 7, 2) := by decide +kernel
theorem d_Mod_special_451 : decode b_Mod_special 451 = .ok (.iload 9, 2) := by decide +kernel
theorem d_Mod_special_453 : decode b_Mod_special 453 = .ok (.iload 8, 2) := by decide +kernel
theorem d_Mod_special_455 : decode b_Mod_special 455 = .ok (.bipush 15, 2) := by decide +kernel
theorem d_Mod_special_457 : decode b_Mod_special 457 = .ok (.iand, 1) := by decide +kernel
theorem d_Mod_special_458 : decode b_Mod_special 458 = .ok (.invokestatic 204, 3) := by decide +kernel
theorem d_Mod_special_461 : decode b_Mod_special 461 = .ok (.invokevirtual 100, 3) := by decide +kernel
theorem d_Mod_special_464 : decode b_Mod_special 464 = .ok (.goto 468, 3) := by decide +kernel
theorem d_Mod_special_467 : decode b_Mod_special 467 = .ok (.iload 9, 2) := by decide +kernel
theorem d_Mod_special_469 : decode b_Mod_special 469 = .ok (.invokestatic 111, 3) := by decide +kernel
theorem d_Mod_special_472 : decode b_Mod_special 472 = .ok (.istore 12, 2) := by decide +kernel
theorem d_Mod_special_474 : decode b_Mod_special 474 = .ok (.aload_n 0, 1) := by decide +kernel
theorem d_Mod_special_475 : decode b_Mod_special 475 = .ok (.iload 5, 2) := by decide +kernel
theorem d_Mod_special_477 : decode b_Mod_special 477 = .ok (.iconst 0, 1) := by decide +kernel
theorem d_Mod_special_478 : decode b_Mod_special 478 = .ok (.invokevirtual 122, 3) := by decide +kernel
theorem d_Mod_special_481 : decode b_Mod_special 481 = .ok (.ifCond .ne 10, 3) := by decide +kernel
theorem d_Mod_special_484 : decode b_Mod_special 484 = .ok (.iload 12, 2) := by decide +kernel
theorem d_Mod_special_486 : decode b_Mod_special 486 = .ok (.bipush (-2), 2) := by decide +kernel
theorem d_Mod_special_488 : decode b_Mod_special 488 = .ok (.iand, 1) := by decide +kernel
theorem d_Mod_special_489 : decode b_Mod_special 489 = .ok (.istore 12, 2) := by decide +kernel
theorem d_Mod_special_491 : decode b_Mod_special 491 = .ok (.aload_n 0, 1) := by decide +kernel
theorem d_Mod_special_492 : decode b_Mod_special 492 = .ok (.bipush 37, 2) := by decide +kernel
theorem d_Mod_special_494 : decode b_Mod_special 494 = .ok (.aload_n 0, 1) := by decide +kernel
theorem d_Mod_special_495 : decode b_Mod_special 495 = .ok (.getfield 7, 3) := by decide +kernel
theorem d_Mod_special_498 : decode b_Mod_special 498 = .ok (.iload 4, 2) := by decide +kernel
theorem d_Mod_special_500 : decode b_Mod_special 500 = .ok (.baload, 1) := by decide +kernel
theorem d_Mod_special_501 : decode b_Mod_special 501 = .ok (.ifCond .eq 58, 3) := by decide +kernel
theorem d_Mod_special_504 : decode b_Mod_special 504 = .ok (.aload_n 0, 1) := by decide +kernel
theorem d_Mod_special_505 : decode b_Mod_special 505 = .ok (.getfield 7, 3) := by decide +kernel
theorem d_Mod_special_508 : decode b_Mod_special 508 = .ok (.iload 5, 2) := by decide +kernel
theorem d_Mod_special_510 : decode b_Mod_special 510 = .ok (.baload, 1) := by decide +kernel
theorem d_Mod_special_511 : decode b_Mod_special 511 = .ok (.ifCond .eq 48, 3) := by decide +kernel
theorem d_Mod_special_514 : decode b_Mod_special 514 = .ok (.iload 9, 2) := by decide +kernel
theorem d_Mod_special_516 : decode b_Mod_special 516 = .ok (.invokestatic 104, 3) := by decide +kernel
theorem d_Mod_special_519 : decode b_Mod_special 519 = .ok (.bipush 12, 2) := by decide +kernel
theorem d_Mod_special_521 : decode b_Mod_special 521 = .ok (.if_icmp .ge 38, 3) := by decide +kernel
theorem d_Mod_special_524 : decode b_Mod_special 524 = .ok (.iload 9, 2) := by decide +kernel
theorem d_Mod_special_526 : decode b_Mod_special 526 = .ok (.invokestatic 104, 3) := by decide +kernel
theorem d_Mod_special_529 : decode b_Mod_special 529 = .ok (.iload 8, 2) := by decide +kernel
theorem d_Mod_special_531 : decode b_Mod_special 531 = .ok (.if_icmp .ne 28, 3) := by decide +kernel
theorem d_Mod_special_534 : decode b_Mod_special 534 = .ok (.iload 10, 2) := by decide +kernel
theorem d_Mod_special_536 : decode b_Mod_special 536 = .ok (.ifCond .eq 23, 3) := by decide +kernel
theorem d_Mod_special_539 : decode b_Mod_special 539 = .ok (.aload_n 0, 1) := by decide +kernel
theorem d_Mod_special_540 : decode b_Mod_special 540 = .ok (.iload 5, 2) := by decide +kernel
theorem d_Mod_special_542 : decode b_Mod_special 542 = .ok (.bipush 9, 2) := by decide +kernel
theorem d_Mod_special_544 : decode b_Mod_special 544 = .ok (.invokevirtual 122, 3) := by decide +kernel
theorem d_Mod_special_547 : decode b_Mod_special 547 = .ok (.ifCond .eq 12, 3) := by decide +kernel
theorem d_Mod_special_550 : decode b_Mod_special 550 = .ok (.iload 11, 2) := by decide +kernel
theorem d_Mod_special_552 : decode b_Mod_special 552 = .ok (.ifCond .eq 7, 3) := by decide +kernel
theorem d_Mod_special_555 : decode b_Mod_special 555 = .ok (.iconst 1, 1) := by decide +kernel
theorem d_Mod_special_556 : decode b_Mod_special 556 = .ok (.goto 4, 3) := by decide +kernel
theorem d_Mod_special_559 : decode b_Mod_special 559 = .ok (.iconst 0, 1) := by decide +kernel
theorem d_Mod_special_560 : decode b_Mod_special 560 = .ok (.iload 7, 2) := by decide +kernel
theorem d_Mod_special_562 : decode b_Mod_special 562 = .ok (.iload 9, 2) := by decide +kernel
theorem d_Mod_special_564 : decode b_Mod_special 564 = .ok (.bipush 15, 2) := by decide +kernel
theorem d_Mod_special_566 : decode b_Mod_special 566 = .ok (.invokestatic 204, 3) := by decide +kernel
theorem d_Mod_special_569 : decode b_Mod_special 569 = .ok (.iload 12, 2) := by decide +kernel
theorem d_Mod_special_571 : decode b_Mod_special 571 = .ok (.invokestatic 223, 3) := by decide +kernel
theorem d_Mod_special_574 : decode b_Mod_special 574 = .ok (.invokevirtual 100, 3) := by decide +kernel
theorem d_Mod_special_577 : decode b_Mod_special 577 = .ok (.goto 355, 3) := by decide +kernel
theorem d_Mod_special_580 : decode b_Mod_special 580 = .ok (.aload_n 0, 1) := by decide +kernel
theorem d_Mod_special_581 : decode b_Mod_special 581 = .ok (.bipush 37, 2) := by decide +kernel
theorem d_Mod_special_583 : decode b_Mod_special 583 = .ok (.aload_n 0, 1) := by decide +kernel
theorem d_Mod_special_584 : decode b_Mod_special 584 = .ok (.getfield 7, 3) := by decide +kernel
theorem d_Mod_special_587 : decode b_Mod_special 587 = .ok (.iload 4, 2) := by decide +kernel
theorem d_Mod_special_589 : decode b_Mod_special 589 = .ok (.baload, 1) := by decide +kernel
theorem d_Mod_special_590 : decode b_Mod_special 590 = .ok (.ifCond .eq 16, 3) := by decide +kernel
theorem d_Mod_special_593 : decode b_Mod_special 593 = .ok (.aload_n 0, 1) := by decide +kernel
theorem d_Mod_special_594 : decode b_Mod_special 594 = .ok (.iload 4, 2) := by decide +kernel
theorem d_Mod_special_596 : decode b_Mod_special 596 = .ok (.invokevirtual 118, 3) := by decide +kernel
