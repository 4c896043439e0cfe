theorem d_Mod_special_599 : decode b_Mod_special 599 = .ok (.ifCond .eq 7, 3) := by decide +kernel
theorem d_Mod_special_602 : decode b_Mod_special 602 = .ok (.iconst 1, 1) := by decide +kernel
theorem d_Mod_special_603 : decode b_Mod_special 603 = .ok (.goto 4, 3) := by decide +kernel
theorem d_Mod_special_606 : decode b_Mod_special 606 = .ok (.iconst 0, 1) := by decide +kernel
theorem d_Mod_special_607 : decode b_Mod_special 607 = .ok (.iload 7, 2) := by decide +kernel
theorem d_Mod_special_609 : decode b_Mod_special 609 = .ok (.iload 9, 2) := by decide +kernel
theorem d_Mod_special_611 : decode b_Mod_special 611 = .ok (.iload 9, 2) := by decide +kernel
theorem d_Mod_special_613 : decode b_Mod_special 613 = .ok (.invokestatic 111, 3) := by decide +kernel
theorem d_Mod_special_616 : decode b_Mod_special 616 = .ok (.iload 8, 2) := by decide +kernel
theorem d_Mod_special_618 : decode b_Mod_special 618 = .ok (.iand, 1) := by decide +kernel
theorem d_Mod_special_619 : decode b_Mod_special 619 = .ok (.invokestatic 223, 3) := by decide +kernel
theorem d_Mod_special_622 : decode b_Mod_special 622 = .ok (.invokevirtual 100, 3) := by decide +kernel
theorem d_Mod_special_625 : decode b_Mod_special 625 = .ok (.goto 307, 3) := by decide +kernel
theorem d_Mod_special_628 : decode b_Mod_special 628 = .ok (.aload_n 0, 1) := by decide +kernel
theorem d_Mod_special_629 : decode b_Mod_special 629 = .ok (.iload 4, 2) := by decide +kernel
theorem d_Mod_special_631 : decode b_Mod_special 631 = .ok (.iload 9, 2) := by decide +kernel
theorem d_Mod_special_633 : decode b_Mod_special 633 = .ok (.iload 7, 2) := by decide +kernel
theorem d_Mod_special_635 : decode b_Mod_special 635 = .ok (.invokestatic 75, 3) := by decide +kernel
theorem d_Mod_special_638 : decode b_Mod_special 638 = .ok (.l2i, 1) := by decide +kernel
theorem d_Mod_special_639 : decode b_Mod_special 639 = .ok (.iload 8, 2) := by decide +kernel
theorem d_Mod_special_641 : decode b_Mod_special 641 = .ok (.iadd, 1) := by decide +kernel
theorem d_Mod_special_642 : decode b_Mod_special 642 = .ok (.bipush 37, 2) := by decide +kernel
theorem d_Mod_special_644 : decode b_Mod_special 644 = .ok (.invokevirtual 168, 3) := by decide +kernel
theorem d_Mod_special_647 : decode b_Mod_special 647 = .ok (.goto 285, 3) := by decide +kernel
theorem d_Mod_special_650 : decode b_Mod_special 650 = .ok (.aload_n 0, 1) := by decide +kernel
theorem d_Mod_special_651 : decode b_Mod_special 651 = .ok (.iload 4, 2) := by decide +kernel
theorem d_Mod_special_653 : decode b_Mod_special 653 = .ok (.iload 8, 2) := by decide +kernel
theorem d_Mod_special_655 : decode b_Mod_special 655 = .ok (.bipush 37, 2) := by decide +kernel
theorem d_Mod_special_657 : decode b_Mod_special 657 = .ok (.invokevirtual 168, 3) := by decide +kernel
theorem d_Mod_special_660 : decode b_Mod_special 660 = .ok (.goto 272, 3) := by decide +kernel
theorem d_Mod_special_663 : decode b_Mod_special 663 = .ok (.aload_n 0, 1) := by decide +kernel
theorem d_Mod_special_664 : decode b_Mod_special 664 = .ok (.iload 4, 2) := by decide +kernel
theorem d_Mod_special_666 : decode b_Mod_special 666 = .ok (.iload 7, 2) := by decide +kernel
theorem d_Mod_special_668 : decode b_Mod_special 668 = .ok (.iload 8, 2) := by decide +kernel
theorem d_Mod_special_670 : decode b_Mod_special 670 = .ok (.iadd, 1) := by decide +kernel
theorem d_Mod_special_671 : decode b_Mod_special 671 = .ok (.bipush 37, 2) := by decide +kernel
theorem d_Mod_special_673 : decode b_Mod_special 673 = .ok (.invokevirtual 168, 3) := by decide +kernel
theorem d_Mod_special_676 : decode b_Mod_special 676 = .ok (.goto 256, 3) := by decide +kernel
theorem d_Mod_special_679 : decode b_Mod_special 679 = .ok (.aload_n 0, 1) := by decide +kernel
theorem d_Mod_special_680 : decode b_Mod_special 680 = .ok (.bipush 37, 2) := by decide +kernel
theorem d_Mod_special_682 : decode b_Mod_special 682 = .ok (.iload 7, 2) := by decide +kernel
theorem d_Mod_special_684 : decode b_Mod_special 684 = .ok (.iload 8, 2) := by decide +kernel
theorem d_Mod_special_686 : decode b_Mod_special 686 = .ok (.isub, 1) := by decide +kernel
theorem d_Mod_special_687 : decode b_Mod_special 687 = .ok (.invokevirtual 172, 3) := by decide +kernel
theorem d_Mod_special_690 : decode b_Mod_special 690 = .ok (.goto 242, 3) := by decide +kernel
theorem d_Mod_special_693 : decode b_Mod_special 693 = .ok (.aload_n 0, 1) := by decide +kernel
theorem d_Mod_special_694 : decode b_Mod_special 694 = .ok (.bipush 37, 2) := by decide +kernel
theorem d_Mod_special_696 : decode b_Mod_special 696 = .ok (.iconst 0, 1) := by decide +kernel
theorem d_Mod_special_697 : decode b_Mod_special 697 = .ok (.iload 7, 2) := by decide +kernel
theorem d_Mod_special_699 : decode b_Mod_special 699 = .ok (.iload 8, 2) := by decide +kernel
theorem d_Mod_special_701 : decode b_Mod_special 701 = .ok (.ldc 36, 2) := by decide +kernel
theorem d_Mod_special_703 : decode b_Mod_special 703 = .ok (.ixor, 1) := by decide +kernel
theorem d_Mod_special_704 : decode b_Mod_special 704 = .ok (.invokevirtual 100, 3) := by decide +kernel
theorem d_Mod_special_707 : decode b_Mod_special 707 = .ok (.goto 225, 3) := by decide +kernel
theorem d_Mod_special_710 : decode b_Mod_special 710 = .ok (.aload_n 0, 1) := by decide +kernel
theorem d_Mod_special_711 : decode b_Mod_special 711 = .ok (.bipush 37, 2) := by decide +kernel
theorem d_Mod_special_713 : decode b_Mod_special 713 = .ok (.aload_n 0, 1) := by decide +kernel
theorem d_Mod_special_714 : decode b_Mod_special 714 = .ok (.getfield 7, 3) := by decide +kernel
theorem d_Mod_special_717 : decode b_Mod_special 717 = .ok (.iload 4, 2) := by decide +kernel
theorem d_Mod_special_719 : decode b_Mod_special 719 = .ok (.baload, 1) := by decide +kernel
theorem d_Mod_special_720 : decode b_Mod_special 720 = .ok (.ifCond .eq 66, 3) := by decide +kernel
theorem d_Mod_special_723 : decode b_Mod_special 723 = .ok (.aload_n 0, 1) := by decide +kernel
theorem d_Mod_special_724 : decode b_Mod_special 724 = .ok (.iload 4, 2) := by decide +kernel
theorem d_Mod_special_726 : decode b_Mod_special 726 = .ok (.invokevirtual 118, 3) := by decide +kernel
theorem d_Mod_special_729 : decode b_Mod_special 729 = .ok (.ifCond .eq 57, 3) := by decide +kernel
theorem d_Mod_special_732 : decode b_Mod_special 732 = .ok (.aload_n 0, 1) := by decide +kernel
theorem d_Mod_special_733 : decode b_Mod_special 733 = .ok (.getfield 17, 3) := by decide +kernel
theorem d_Mod_special_736 : decode b_Mod_special 736 = .ok (.iload 5, 2) := by decide +kernel
theorem d_Mod_special_738 : decode b_Mod_special 738 = .ok (.iaload, 1) := by decide +kernel
theorem d_Mod_special_739 : decode b_Mod_special 739 = .ok (.iload 8, 2) := by decide +kernel
theorem d_Mod_special_741 : decode b_Mod_special 741 = .ok (.invokestatic 75, 3) := by decide +kernel
theorem d_Mod_special_744 : decode b_Mod_special 744 = .ok (.aload_n 0, 1) := by decide +kernel
theorem d_Mod_special_745 : decode b_Mod_special 745 = .ok (.getfield 17, 3) := by decide +kernel
theorem d_Mod_special_748 : decode b_Mod_special 748 = .ok (.iload 5, 2) := by decide +kernel
theorem d_Mod_special_750 : decode b_Mod_special 750 = .ok (.iaload, 1) := by decide +kernel
theorem d_Mod_special_751 : decode b_Mod_special 751 = .ok (.iload 8, 2) := by decide +kernel
theorem d_Mod_special_753 : decode b_Mod_special 753 = .ok (.invokestatic 80, 3) := by decide +kernel
theorem d_Mod_special_756 : decode b_Mod_special 756 = .ok (.lcmp, 1) := by decide +kernel
theorem d_Mod_special_757 : decode b_Mod_special 757 = .ok (.ifCond .gt 29, 3) := by decide +kernel
theorem d_Mod_special_760 : decode b_Mod_special 760 = .ok (.aload_n 0, 1) := by decide +kernel
theorem d_Mod_special_761 : decode b_Mod_special 761 = .ok (.iload 5, 2) := by decide +kernel
theorem d_Mod_special_763 : decode b_Mod_special 763 = .ok (.iload 4, 2) := by decide +kernel
theorem d_Mod_special_765 : decode b_Mod_special 765 = .ok (.invokevirtual 226, 3) := by decide +kernel
theorem d_Mod_special_768 : decode b_Mod_special 768 = .ok (.ifCond .eq 18, 3) := by decide +kernel
theorem d_Mod_special_771 : decode b_Mod_special 771 = .ok (.aload_n 0, 1) := by decide +kernel
theorem d_Mod_special_772 : decode b_Mod_special 772 = .ok (.iload 5, 2) := by decide +kernel
theorem d_Mod_special_774 : decode b_Mod_special 774 = .ok (.iload 4, 2) := by decide +kernel
theorem d_Mod_special_776 : decode b_Mod_special 776 = .ok (.invokevirtual 229, 3) := by decide +kernel
theorem d_Mod_special_779 : decode b_Mod_special 779 = .ok (.ifCond .eq 7, 3) := by decide +kernel
theorem d_Mod_special_782 : decode b_Mod_special 782 = .ok (.iconst 1, 1) := by decide +kernel
theorem d_Mod_special_783 : decode b_Mod_special 783 = .ok (.goto 4, 3) := by decide +kernel
theorem d_Mod_special_786 : decode b_Mod_special 786 = .ok (.iconst 0, 1) := by decide +kernel
theorem d_Mod_special_787 : decode b_Mod_special 787 = .ok (.iload 8, 2) := by decide +kernel
theorem d_Mod_special_789 : decode b_Mod_special 789 = .ok (.aload_n 0, 1) := by decide +kernel
theorem d_Mod_special_790 : decode b_Mod_special 790 = .ok (.getfield 17, 3) := by decide +kernel
theorem d_Mod_special_793 : decode b_Mod_special 793 = .ok (.iload 5, 2) := by decide +kernel
theorem d_Mod_special_795 : decode b_Mod_special 795 = .ok (.iaload, 1) := by decide +kernel
theorem d_Mod_special_796 : decode b_Mod_special 796 = .ok (.aload_n 0, 1) := by decide +kernel
theorem d_Mod_special_797 : decode b_Mod_special 797 = .ok (.getfield 17, 3) := by decide +kernel
theorem d_Mod_special_800 : decode b_Mod_special 800 = .ok (.iload 5, 2) := by decide +kernel
theorem d_Mod_special_802 : decode b_Mod_special 802 = .ok (.iaload, 1) := by decide +kernel
theorem d_Mod_special_803 : decode b_Mod_special 803 = .ok (.invokestatic 104, 3) := by decide +kernel
theorem d_Mod_special_806 : decode b_Mod_special 806 = .ok (.bipush 14, 2) := by decide +kernel
theorem d_Mod_special_808 : decode b_Mod_special 808 = .ok (.if_icmp .ne 8, 3) := by decide +kernel
theorem d_Mod_special_811 : decode b_Mod_special 811 = .ok (.bipush 14, 2) := by decide +kernel
theorem d_Mod_special_813 : decode b_Mod_special 813 = .ok (.goto 5, 3) := by decide +kernel
theorem d_Mod_special_816 : decode b_Mod_special 816 = .ok (.bipush 15, 2) := by decide +kernel
theorem d_Mod_special_818 : decode b_Mod_special 818 = .ok (.invokestatic 204, 3) := by decide +kernel
theorem d_Mod_special_821 : decode b_Mod_special 821 = .ok (.invokevirtual 100, 3) := by decide +kernel
theorem d_Mod_special_824 : decode b_Mod_special 824 = .ok (.goto 108, 3) := by decide +kernel
theorem d_Mod_special_827 : decode b_Mod_special 827 = .ok (.aload_n 0, 1) := by decide +kernel
theorem d_Mod_special_828 : decode b_Mod_special 828 = .ok (.bipush 37, 2) := by decide +kernel
theorem d_Mod_special_830 : decode b_Mod_special 830 = .ok (.aload_n 0, 1) := by decide +kernel
theorem d_Mod_special_831 : decode b_Mod_special 831 = .ok (.getfield 7, 3) := by decide +kernel
theorem d_Mod_special_834 : decode b_Mod_special 834 = .ok (.iload 4, 2) := by decide +kernel
theorem d_Mod_special_836 : decode b_Mod_special 836 = .ok (.baload, 1) := by decide +kernel
theorem d_Mod_special_837 : decode b_Mod_special 837 = .ok (.aload_n 0, 1) := by decide +kernel
theorem d_Mod_special_838 : decode b_Mod_special 838 = .ok (.getfield 7, 3) := by decide +kernel
theorem d_Mod_special_841 : decode b_Mod_special 841 = .ok (.iload 5, 2) := by decide +kernel
theorem d_Mod_special_843 : decode b_Mod_special 843 = .ok (.baload, 1) := by decide +kernel
theorem d_Mod_special_844 : decode b_Mod_special 844 = .ok (.if_icmp .ne 29, 3) := by decide +kernel
theorem d_Mod_special_847 : decode b_Mod_special 847 = .ok (.aload_n 0, 1) := by decide +kernel
theorem d_Mod_special_848 : decode b_Mod_special 848 = .ok (.iload 5, 2) := by decide +kernel
theorem d_Mod_special_850 : decode b_Mod_special 850 = .ok (.iload 4, 2) := by decide +kernel
theorem d_Mod_special_852 : decode b_Mod_special 852 = .ok (.invokevirtual 226, 3) := by decide +kernel
theorem d_Mod_special_855 : decode b_Mod_special 855 = .ok (.ifCond .eq 18, 3) := by decide +kernel
theorem d_Mod_special_858 : decode b_Mod_special 858 = .ok (.aload_n 0, 1) := by decide +kernel
theorem d_Mod_special_859 : decode b_Mod_special 859 = .ok (.iload 5, 2) := by decide +kernel
theorem d_Mod_special_861 : decode b_Mod_special 861 = .ok (.iload 4, 2) := by decide +kernel
theorem d_Mod_special_863 : decode b_Mod_special 863 = .ok (.invokevirtual 229, 3) := by decide +kernel
theorem d_Mod_special_866 : decode b_Mod_special 866 = .ok (.ifCond .eq 7, 3) := by decide +kernel
theorem d_Mod_special_869 : decode b_Mod_special 869 = .ok (.iconst 1, 1) := by decide +kernel
theorem d_Mod_special_870 : decode b_Mod_special 870 = .ok (.goto 4, 3) := by decide +kernel
theorem d_Mod_special_873 : decode b_Mod_special 873 = .ok (.iconst 0, 1) := by decide +kernel
theorem d_Mod_special_874 : decode b_Mod_special 874 = .ok (.invokevirtual 172, 3) := by decide +kernel
theorem d_Mod_special_877 : decode b_Mod_special 877 = .ok (.goto 55, 3) := by decide +kernel
theorem d_Mod_special_880 : decode b_Mod_special 880 = .ok (.iload_n 2, 1) := by decide +kernel
theorem d_Mod_special_881 : decode b_Mod_special 881 = .ok (.iconst 1, 1) := by decide +kernel
theorem d_Mod_special_882 : decode b_Mod_special 882 = .ok (.if_icmp .ne 14, 3) := by decide +kernel
theorem d_Mod_special_885 : decode b_Mod_special 885 = .ok (.aload_n 0, 1) := by decide +kernel
theorem d_Mod_special_886 : decode b_Mod_special 886 = .ok (.iload 4, 2) := by decide +kernel
theorem d_Mod_special_888 : decode b_Mod_special 888 = .ok (.iload 5, 2) := by decide +kernel
theorem d_Mod_special_890 : decode b_Mod_special 890 = .ok (.invokevirtual 232, 3) := by decide +kernel
theorem d_Mod_special_893 : decode b_Mod_special 893 = .ok (.goto 9, 3) := by decide +kernel
theorem d_Mod_special_896 : decode b_Mod_special 896 = .ok (.aload_n 0, 1) := by decide +kernel
theorem d_Mod_special_897 : decode b_Mod_special 897 = .ok (.iconst 2, 1) := by decide +kernel
theorem d_Mod_special_898 : decode b_Mod_special 898 = .ok (.iload_n 1, 1) := by decide +kernel
theorem d_Mod_special_899 : decode b_Mod_special 899 = .ok (.invokevirtual 159, 3) := by decide +kernel
theorem d_Mod_special_902 : decode b_Mod_special 902 = .ok (.ireturn, 1) := by decide +kernel
theorem d_Mod_special_903 : decode b_Mod_special 903 = .ok (.aload_n 0, 1) := by decide +kernel
theorem d_Mod_special_904 : decode b_Mod_special 904 = .ok (.iload 5, 2) := by decide +kernel
theorem d_Mod_special_906 : decode b_Mod_special 906 = .ok (.iload 4, 2) := by decide +kernel
theorem d_Mod_special_908 : decode b_Mod_special 908 = .ok (.iload 7, 2) := by decide +kernel
theorem d_Mod_special_910 : decode b_Mod_special 910 = .ok (.iload 9, 2) := by decide +kernel
theorem d_Mod_special_912 : decode b_Mod_special 912 = .ok (.invokevirtual 235, 3) := by decide +kernel
theorem d_Mod_special_915 : decode b_Mod_special 915 = .ok (.ifCond .ne 17, 3) := by decide +kernel
theorem d_Mod_special_918 : decode b_Mod_special 918 = .ok (.aload_n 0, 1) := by decide +kernel
theorem d_Mod_special_919 : decode b_Mod_special 919 = .ok (.iconst 2, 1) := by decide +kernel
theorem d_Mod_special_920 : decode b_Mod_special 920 = .ok (.iload_n 1, 1) := by decide +kernel
theorem d_Mod_special_921 : decode b_Mod_special 921 = .ok (.invokevirtual 159, 3) := by decide +kernel
theorem d_Mod_special_924 : decode b_Mod_special 924 = .ok (.ireturn, 1) := by decide +kernel
theorem d_Mod_special_925 : decode b_Mod_special 925 = .ok (.aload_n 0, 1) := by decide +kernel
theorem d_Mod_special_926 : decode b_Mod_special 926 = .ok (.iconst 2, 1) := by decide +kernel
theorem d_Mod_special_927 : decode b_Mod_special 927 = .ok (.iload_n 1, 1) := by decide +kernel
theorem d_Mod_special_928 : decode b_Mod_special 928 = .ok (.invokevirtual 159, 3) := by decide +kernel
theorem d_Mod_special_931 : decode b_Mod_special 931 = .ok (.ireturn, 1) := by decide +kernel
theorem d_Mod_special_932 : decode b_Mod_special 932 = .ok (.aload_n 0, 1) := by decide +kernel
theorem d_Mod_special_933 : decode b_Mod_special 933 = .ok (.bipush 37, 2) := by decide +kernel
theorem d_Mod_special_935 : decode b_Mod_special 935 = .ok (.iload_n 2, 1) := by decide +kernel
theorem d_Mod_special_936 : decode b_Mod_special 936 = .ok (.invokevirtual 139, 3) := by decide +kernel
theorem d_Mod_special_939 : decode b_Mod_special 939 = .ok (.iconst 1, 1) := by decide +kernel
theorem d_Mod_special_940 : decode b_Mod_special 940 = .ok (.ireturn, 1) := by decide +kernel
theorem d_Mod_bounds_0 : decode b_Mod_bounds 0 = .ok (.aload_n 0, 1) := by decide +kernel
theorem d_Mod_bounds_1 : decode b_Mod_bounds 1 = .ok (.getfield 13, 3) := by decide +kernel
theorem d_Mod_bounds_4 : decode b_Mod_bounds 4 = .ok (.iload_n 2, 1) := by decide +kernel
theorem d_Mod_bounds_5 : decode b_Mod_bounds 5 = .ok (.iaload, 1) := by decide +kernel
theorem d_Mod_bounds_6 : decode b_Mod_bounds 6 = .ok (.invokestatic 58, 3) := by decide +kernel
theorem d_Mod_bounds_9 : decode b_Mod_bounds 9 = .ok (.lstore 6, 2) := by decide +kernel
theorem d_Mod_bounds_11 : decode b_Mod_bounds 11 = .ok (.lload 6, 2) := by decide +kernel
theorem d_Mod_bounds_13 : decode b_Mod_bounds 13 = .ok (.lload_n 3, 1) := by decide +kernel
theorem d_Mod_bounds_14 : decode b_Mod_bounds 14 = .ok (.ladd, 1) := by decide +kernel
theorem d_Mod_bounds_15 : decode b_Mod_bounds 15 = .ok (.lstore 8, 2) := by decide +kernel
theorem d_Mod_bounds_17 : decode b_Mod_bounds 17 = .ok (.aload_n 0, 1) := by decide +kernel
theorem d_Mod_bounds_18 : decode b_Mod_bounds 18 = .ok (.getfield 7, 3) := by decide +kernel
theorem d_Mod_bounds_21 : decode b_Mod_bounds 21 = .ok (.iload_n 2, 1) := by decide +kernel
theorem d_Mod_bounds_22 : decode b_Mod_bounds 22 = .ok (.baload, 1) := by decide +kernel
theorem d_Mod_bounds_23 : decode b_Mod_bounds 23 = .ok (.ifCond .eq 66, 3) := by decide +kernel
theorem d_Mod_bounds_26 : decode b_Mod_bounds 26 = .ok (.aload_n 0, 1) := by decide +kernel
theorem d_Mod_bounds_27 : decode b_Mod_bounds 27 = .ok (.iload_n 2, 1) := by decide +kernel
theorem d_Mod_bounds_28 : decode b_Mod_bounds 28 = .ok (.invokevirtual 118, 3) := by decide +kernel
theorem d_Mod_bounds_31 : decode b_Mod_bounds 31 = .ok (.ifCond .eq 58, 3) := by decide +kernel
theorem d_Mod_bounds_34 : decode b_Mod_bounds 34 = .ok (.lload 8, 2) := by decide +kernel
theorem d_Mod_bounds_36 : decode b_Mod_bounds 36 = .ok (.ldc2_w 78, 3) := by decide +kernel
theorem d_Mod_bounds_39 : decode b_Mod_bounds 39 = .ok (.lcmp, 1) := by decide +kernel
theorem d_Mod_bounds_40 : decode b_Mod_bounds 40 = .ok (.ifCond .gt 49, 3) := by decide +kernel
theorem d_Mod_bounds_43 : decode b_Mod_bounds 43 = .ok (.aload_n 0, 1) := by decide +kernel
theorem d_Mod_bounds_44 : decode b_Mod_bounds 44 = .ok (.getfield 17, 3) := by decide +kernel
theorem d_Mod_bounds_47 : decode b_Mod_bounds 47 = .ok (.iload_n 2, 1) := by decide +kernel
theorem d_Mod_bounds_48 : decode b_Mod_bounds 48 = .ok (.iaload, 1) := by decide +kernel
theorem d_Mod_bounds_49 : decode b_Mod_bounds 49 = .ok (.aload_n 0, 1) := by decide +kernel
theorem d_Mod_bounds_50 : decode b_Mod_bounds 50 = .ok (.getfield 13, 3) := by decide +kernel
theorem d_Mod_bounds_53 : decode b_Mod_bounds 53 = .ok (.iload_n 2, 1) := by decide +kernel
theorem d_Mod_bounds_54 : decode b_Mod_bounds 54 = .ok (.iaload, 1) := by decide +kernel
theorem d_Mod_bounds_55 : decode b_Mod_bounds 55 = .ok (.invokestatic 75, 3) := by decide +kernel
theorem d_Mod_bounds_58 : decode b_Mod_bounds 58 = .ok (.lload 6, 2) := by decide +kernel
theorem d_Mod_bounds_60 : decode b_Mod_bounds 60 = .ok (.lcmp, 1) := by decide +kernel
theorem d_Mod_bounds_61 : decode b_Mod_bounds 61 = .ok (.ifCond .gt 28, 3) := by decide +kernel
theorem d_Mod_bounds_64 : decode b_Mod_bounds 64 = .ok (.lload 8, 2) := by decide +kernel
theorem d_Mod_bounds_66 : decode b_Mod_bounds 66 = .ok (.aload_n 0, 1) := by decide +kernel
theorem d_Mod_bounds_67 : decode b_Mod_bounds 67 = .ok (.getfield 17, 3) := by decide +kernel
theorem d_Mod_bounds_70 : decode b_Mod_bounds 70 = .ok (.iload_n 2, 1) := by decide +kernel
theorem d_Mod_bounds_71 : decode b_Mod_bounds 71 = .ok (.iaload, 1) := by decide +kernel
theorem d_Mod_bounds_72 : decode b_Mod_bounds 72 = .ok (.aload_n 0, 1) := by decide +kernel
theorem d_Mod_bounds_73 : decode b_Mod_bounds 73 = .ok (.getfield 13, 3) := by decide +kernel
theorem d_Mod_bounds_76 : decode b_Mod_bounds 76 = .ok (.iload_n 2, 1) := by decide +kernel
theorem d_Mod_bounds_77 : decode b_Mod_bounds 77 = .ok (.iaload, 1) := by decide +kernel
theorem d_Mod_bounds_78 : decode b_Mod_bounds 78 = .ok (.invokestatic 80, 3) := by decide +kernel
theorem d_Mod_bounds_81 : decode b_Mod_bounds 81 = .ok (.lcmp, 1) := by decide +kernel
theorem d_Mod_bounds_82 : decode b_Mod_bounds 82 = .ok (.ifCond .gt 7, 3) := by decide +kernel
theorem d_Mod_bounds_85 : decode b_Mod_bounds 85 = .ok (.iconst 1, 1) := by decide +kernel
theorem d_Mod_bounds_86 : decode b_Mod_bounds 86 = .ok (.goto 4, 3) := by decide +kernel
theorem d_Mod_bounds_89 : decode b_Mod_bounds 89 = .ok (.iconst 0, 1) := by decide +kernel
theorem d_Mod_bounds_90 : decode b_Mod_bounds 90 = .ok (.istore 10, 2) := by decide +kernel
theorem d_Mod_bounds_92 : decode b_Mod_bounds 92 = .ok (.aload_n 0, 1) := by decide +kernel
theorem d_Mod_bounds_93 : decode b_Mod_bounds 93 = .ok (.lload 6, 2) := by decide +kernel
theorem d_Mod_bounds_95 : decode b_Mod_bounds 95 = .ok (.lload 8, 2) := by decide +kernel
theorem d_Mod_bounds_97 : decode b_Mod_bounds 97 = .ok (.ldc2_w 78, 3) := by decide +kernel
theorem d_Mod_bounds_100 : decode b_Mod_bounds 100 = .ok (.lcmp, 1) := by decide +kernel
theorem d_Mod_bounds_101 : decode b_Mod_bounds 101 = .ok (.ifCond .ge 8, 3) := by decide +kernel
theorem d_Mod_bounds_104 : decode b_Mod_bounds 104 = .ok (.lload 8, 2) := by decide +kernel
theorem d_Mod_bounds_106 : decode b_Mod_bounds 106 = .ok (.goto 6, 3) := by decide +kernel
theorem d_Mod_bounds_109 : decode b_Mod_bounds 109 = .ok (.ldc2_w 78, 3) := by decide +kernel
theorem d_Mod_bounds_112 : decode b_Mod_bounds 112 = .ok (.invokevirtual 213, 3) := by decide +kernel
theorem d_Mod_bounds_115 : decode b_Mod_bounds 115 = .ok (.aload_n 0, 1) := by decide +kernel
theorem d_Mod_bounds_116 : decode b_Mod_bounds 116 = .ok (.iload_n 1, 1) := by decide +kernel
theorem d_Mod_bounds_117 : decode b_Mod_bounds 117 = .ok (.iload 10, 2) := by decide +kernel
theorem d_Mod_bounds_119 : decode b_Mod_bounds 119 = .ok (.ifCond .eq 19, 3) := by decide +kernel
theorem d_Mod_bounds_122 : decode b_Mod_bounds 122 = .ok (.aload_n 0, 1) := by decide +kernel
theorem d_Mod_bounds_123 : decode b_Mod_bounds 123 = .ok (.getfield 90, 3) := by decide +kernel
theorem d_Mod_bounds_126 : decode b_Mod_bounds 126 = .ok (.ifCond .ne 8, 3) := by decide +kernel
theorem d_Mod_bounds_129 : decode b_Mod_bounds 129 = .ok (.iload 5, 2) := by decide +kernel
theorem d_Mod_bounds_131 : decode b_Mod_bounds 131 = .ok (.ifCond .ne 7, 3) := by decide +kernel
theorem d_Mod_bounds_134 : decode b_Mod_bounds 134 = .ok (.iconst 1, 1) := by decide +kernel
theorem d_Mod_bounds_135 : decode b_Mod_bounds 135 = .ok (.goto 4, 3) := by decide +kernel
theorem d_Mod_bounds_138 : decode b_Mod_bounds 138 = .ok (.iconst 0, 1) := by decide +kernel
theorem d_Mod_bounds_139 : decode b_Mod_bounds 139 = .ok (.aload_n 0, 1) := by decide +kernel
theorem d_Mod_bounds_140 : decode b_Mod_bounds 140 = .ok (.getfield 13, 3) := by decide +kernel
theorem d_Mod_bounds_143 : decode b_Mod_bounds 143 = .ok (.iload_n 2, 1) := by decide +kernel
theorem d_Mod_bounds_144 : decode b_Mod_bounds 144 = .ok (.iaload, 1) := by decide +kernel
theorem d_Mod_bounds_145 : decode b_Mod_bounds 145 = .ok (.aload_n 0, 1) := by decide +kernel
theorem d_Mod_bounds_146 : decode b_Mod_bounds 146 = .ok (.getfield 17, 3) := by decide +kernel
theorem d_Mod_bounds_149 : decode b_Mod_bounds 149 = .ok (.iload_n 2, 1) := by decide +kernel
theorem d_Mod_bounds_150 : decode b_Mod_bounds 150 = .ok (.iaload, 1) := by decide +kernel
theorem d_Mod_bounds_151 : decode b_Mod_bounds 151 = .ok (.sipush (-32768), 3) := by decide +kernel
theorem d_Mod_bounds_154 : decode b_Mod_bounds 154 = .ok (.iand, 1) := by decide +kernel
theorem d_Mod_bounds_155 : decode b_Mod_bounds 155 = .ok (.aload_n 0, 1) := by decide +kernel
theorem d_Mod_bounds_156 : decode b_Mod_bounds 156 = .ok (.getfield 87, 3) := by decide +kernel
theorem d_Mod_bounds_159 : decode b_Mod_bounds 159 = .ok (.ior, 1) := by decide +kernel
theorem d_Mod_bounds_160 : decode b_Mod_bounds 160 = .ok (.invokevirtual 100, 3) := by decide +kernel
theorem d_Mod_bounds_163 : decode b_Mod_bounds 163 = .ok (.iconst 1, 1) := by decide +kernel
theorem d_Mod_bounds_164 : decode b_Mod_bounds 164 = .ok (.ireturn, 1) := by decide +kernel
theorem d_Mod_withPerms_0 : decode b_Mod_withPerms 0 = .ok (.iload_n 0, 1) := by decide +kernel
theorem d_Mod_withPerms_1 : decode b_Mod_withPerms 1 = .ok (.ldc 44, 2) := by decide +kernel
theorem d_Mod_withPerms_3 : decode b_Mod_withPerms 3 = .ok (.iand, 1) := by decide +kernel
theorem d_Mod_withPerms_4 : decode b_Mod_withPerms 4 = .ok (.iload_n 1, 1) := by decide +kernel
theorem d_Mod_withPerms_5 : decode b_Mod_withPerms 5 = .ok (.bipush 20, 2) := by decide +kernel
theorem d_Mod_withPerms_7 : decode b_Mod_withPerms 7 = .ok (.ishl, 1) := by decide +kernel
theorem d_Mod_withPerms_8 : decode b_Mod_withPerms 8 = .ok (.ior, 1) := by decide +kernel
theorem d_Mod_withPerms_9 : decode b_Mod_withPerms 9 = .ok (.ireturn, 1) := by decide +kernel
theorem d_Mod_isWithin_0 : decode b_Mod_isWithin 0 = .ok (.aload_n 0, 1) := by decide +kernel
theorem d_Mod_isWithin_1 : decode b_Mod_isWithin 1 = .ok (.getfield 17, 3) := by decide +kernel
theorem d_Mod_isWithin_4 : decode b_Mod_isWithin 4 = .ok (.iload_n 1, 1) := by decide +kernel
theorem d_Mod_isWithin_5 : decode b_Mod_isWithin 5 = .ok (.iaload, 1) := by decide +kernel
theorem d_Mod_isWithin_6 : decode b_Mod_isWithin 6 = .ok (.aload_n 0, 1) := by decide +kernel
theorem d_Mod_isWithin_7 : decode b_Mod_isWithin 7 = .ok (.getfield 13, 3) := by decide +kernel
theorem d_Mod_isWithin_10 : decode b_Mod_isWithin 10 = .ok (.iload_n 1, 1) := by decide +kernel
theorem d_Mod_isWithin_11 : decode b_Mod_isWithin 11 = .ok (.iaload, 1) := by decide +kernel
theorem d_Mod_isWithin_12 : decode b_Mod_isWithin 12 = .ok (.invokestatic 75, 3) := by decide +kernel
theorem d_Mod_isWithin_15 : decode b_Mod_isWithin 15 = .ok (.aload_n 0, 1) := by decide +kernel
theorem d_Mod_isWithin_16 : decode b_Mod_isWithin 16 = .ok (.getfield 17, 3) := by decide +kernel
theorem d_Mod_isWithin_19 : decode b_Mod_isWithin 19 = .ok (.iload_n 2, 1) := by decide +kernel
theorem d_Mod_isWithin_20 : decode b_Mod_isWithin 20 = .ok (.iaload, 1) := by decide +kernel
theorem d_Mod_isWithin_21 : decode b_Mod_isWithin 21 = .ok (.aload_n 0, 1) := by decide +kernel
theorem d_Mod_isWithin_22 : decode b_Mod_isWithin 22 = .ok (.getfield 13, 3) := by decide +kernel
theorem d_Mod_isWithin_25 : decode b_Mod_isWithin 25 = .ok (.iload_n 2, 1) := by decide +kernel
theorem d_Mod_isWithin_26 : decode b_Mod_isWithin 26 = .ok (.iaload, 1) := by decide +kernel
theorem d_Mod_isWithin_27 : decode b_Mod_isWithin 27 = .ok (.invokestatic 75, 3) := by decide +kernel
theorem d_Mod_isWithin_30 : decode b_Mod_isWithin 30 = .ok (.lcmp, 1) := by decide +kernel
theorem d_Mod_isWithin_31 : decode b_Mod_isWithin 31 = .ok (.ifCond .lt 41, 3) := by decide +kernel
theorem d_Mod_isWithin_34 : decode b_Mod_isWithin 34 = .ok (.aload_n 0, 1) := by decide +kernel
theorem d_Mod_isWithin_35 : decode b_Mod_isWithin 35 = .ok (.getfield 17, 3) := by decide +kernel
theorem d_Mod_isWithin_38 : decode b_Mod_isWithin 38 = .ok (.iload_n 1, 1) := by decide +kernel
theorem d_Mod_isWithin_39 : decode b_Mod_isWithin 39 = .ok (.iaload, 1) := by decide +kernel
theorem d_Mod_isWithin_40 : decode b_Mod_isWithin 40 = .ok (.aload_n 0, 1) := by decide +kernel
theorem d_Mod_isWithin_41 : decode b_Mod_isWithin 41 = .ok (.getfield 13, 3) := by decide +kernel
theorem d_Mod_isWithin_44 : decode b_Mod_isWithin 44 = .ok (.iload_n 1, 1) := by decide +kernel
theorem d_Mod_isWithin_45 : decode b_Mod_isWithin 45 = .ok (.iaload, 1) := by decide +kernel
theorem d_Mod_isWithin_46 : decode b_Mod_isWithin 46 = .ok (.invokestatic 80, 3) := by decide +kernel
theorem d_Mod_isWithin_49 : decode b_Mod_isWithin 49 = .ok (.aload_n 0, 1) := by decide +kernel
theorem d_Mod_isWithin_50 : decode b_Mod_isWithin 50 = .ok (.getfield 17, 3) := by decide +kernel
theorem d_Mod_isWithin_53 : decode b_Mod_isWithin 53 = .ok (.iload_n 2, 1) := by decide +kernel
theorem d_Mod_isWithin_54 : decode b_Mod_isWithin 54 = .ok (.iaload, 1) := by decide +kernel
theorem d_Mod_isWithin_55 : decode b_Mod_isWithin 55 = .ok (.aload_n 0, 1) := by decide +kernel
theorem d_Mod_isWithin_56 : decode b_Mod_isWithin 56 = .ok (.getfield 13, 3) := by decide +kernel
theorem d_Mod_isWithin_59 : decode b_Mod_isWithin 59 = .ok (.iload_n 2, 1) := by decide +kernel
theorem d_Mod_isWithin_60 : decode b_Mod_isWithin 60 = .ok (.iaload, 1) := by decide +kernel
theorem d_Mod_isWithin_61 : decode b_Mod_isWithin 61 = .ok (.invokestatic 80, 3) := by decide +kernel
theorem d_Mod_isWithin_64 : decode b_Mod_isWithin 64 = .ok (.lcmp, 1) := by decide +kernel
theorem d_Mod_isWithin_65 : decode b_Mod_isWithin 65 = .ok (.ifCond .gt 7, 3) := by decide +kernel
theorem d_Mod_isWithin_68 : decode b_Mod_isWithin 68 = .ok (.iconst 1, 1) := by decide +kernel
theorem d_Mod_isWithin_69 : decode b_Mod_isWithin 69 = .ok (.goto 4, 3) := by decide +kernel
theorem d_Mod_isWithin_72 : decode b_Mod_isWithin 72 = .ok (.iconst 0, 1) := by decide +kernel
theorem d_Mod_isWithin_73 : decode b_Mod_isWithin 73 = .ok (.ireturn, 1) := by decide +kernel
theorem d_Mod_isAmong_0 : decode b_Mod_isAmong 0 = .ok (.aload_n 0, 1) := by decide +kernel
theorem d_Mod_isAmong_1 : decode b_Mod_isAmong 1 = .ok (.getfield 17, 3) := by decide +kernel
theorem d_Mod_isAmong_4 : decode b_Mod_isAmong 4 = .ok (.iload_n 1, 1) := by decide +kernel
theorem d_Mod_isAmong_5 : decode b_Mod_isAmong 5 = .ok (.iaload, 1) := by decide +kernel
theorem d_Mod_isAmong_6 : decode b_Mod_isAmong 6 = .ok (.invokestatic 111, 3) := by decide +kernel
theorem d_Mod_isAmong_9 : decode b_Mod_isAmong 9 = .ok (.aload_n 0, 1) := by decide +kernel
theorem d_Mod_isAmong_10 : decode b_Mod_isAmong 10 = .ok (.getfield 17, 3) := by decide +kernel
theorem d_Mod_isAmong_13 : decode b_Mod_isAmong 13 = .ok (.iload_n 2, 1) := by decide +kernel
theorem d_Mod_isAmong_14 : decode b_Mod_isAmong 14 = .ok (.iaload, 1) := by decide +kernel
theorem d_Mod_isAmong_15 : decode b_Mod_isAmong 15 = .ok (.invokestatic 111, 3) := by decide +kernel
theorem d_Mod_isAmong_18 : decode b_Mod_isAmong 18 = .ok (.iconst (-1), 1) := by decide +kernel
theorem d_Mod_isAmong_19 : decode b_Mod_isAmong 19 = .ok (.ixor, 1) := by decide +kernel
theorem d_Mod_isAmong_20 : decode b_Mod_isAmong 20 = .ok (.iand, 1) := by decide +kernel
theorem d_Mod_isAmong_21 : decode b_Mod_isAmong 21 = .ok (.ifCond .ne 7, 3) := by decide +kernel
theorem d_Mod_isAmong_24 : decode b_Mod_isAmong 24 = .ok (.iconst 1, 1) := by decide +kernel
theorem d_Mod_isAmong_25 : decode b_Mod_isAmong 25 = .ok (.goto 4, 3) := by decide +kernel
theorem d_Mod_isAmong_28 : decode b_Mod_isAmong 28 = .ok (.iconst 0, 1) := by decide +kernel
theorem d_Mod_isAmong_29 : decode b_Mod_isAmong 29 = .ok (.ireturn, 1) := by decide +kernel
theorem d_Mod_invoke_0 : decode b_Mod_invoke 0 = .ok (.aload_n 0, 1) := by decide +kernel
theorem d_Mod_invoke_1 : decode b_Mod_invoke 1 = .ok (.getfield 7, 3) := by decide +kernel
theorem d_Mod_invoke_4 : decode b_Mod_invoke 4 = .ok (.iload_n 1, 1) := by decide +kernel
theorem d_Mod_invoke_5 : decode b_Mod_invoke 5 = .ok (.baload, 1) := by decide +kernel
theorem d_Mod_invoke_6 : decode b_Mod_invoke 6 = .ok (.ifCond .ne 10, 3) := by decide +kernel
theorem d_Mod_invoke_9 : decode b_Mod_invoke 9 = .ok (.aload_n 0, 1) := by decide +kernel
theorem d_Mod_invoke_10 : decode b_Mod_invoke 10 = .ok (.iload_n 1, 1) := by decide +kernel
theorem d_Mod_invoke_11 : decode b_Mod_invoke 11 = .ok (.iconst 2, 1) := by decide +kernel
theorem d_Mod_invoke_12 : decode b_Mod_invoke 12 = .ok (.invokevirtual 208, 3) := by decide +kernel
theorem d_Mod_invoke_15 : decode b_Mod_invoke 15 = .ok (.ireturn, 1) := by decide +kernel
theorem d_Mod_invoke_16 : decode b_Mod_invoke 16 = .ok (.aload_n 0, 1) := by decide +kernel
theorem d_Mod_invoke_17 : decode b_Mod_invoke 17 = .ok (.getfield 7, 3) := by decide +kernel
theorem d_Mod_invoke_20 : decode b_Mod_invoke 20 = .ok (.iload_n 2, 1) := by decide +kernel
theorem d_Mod_invoke_21 : decode b_Mod_invoke 21 = .ok (.baload, 1) := by decide +kernel
theorem d_Mod_invoke_22 : decode b_Mod_invoke 22 = .ok (.ifCond .ne 10, 3) := by decide +kernel
theorem d_Mod_invoke_25 : decode b_Mod_invoke 25 = .ok (.aload_n 0, 1) := by decide +kernel
theorem d_Mod_invoke_26 : decode b_Mod_invoke 26 = .ok (.iload_n 2, 1) := by decide +kernel
theorem d_Mod_invoke_27 : decode b_Mod_invoke 27 = .ok (.iconst 2, 1) := by decide +kernel
theorem d_Mod_invoke_28 : decode b_Mod_invoke 28 = .ok (.invokevirtual 208, 3) := by decide +kernel
theorem d_Mod_invoke_31 : decode b_Mod_invoke 31 = .ok (.ireturn, 1) := by decide +kernel
theorem d_Mod_invoke_32 : decode b_Mod_invoke 32 = .ok (.aload_n 0, 1) := by decide +kernel
theorem d_Mod_invoke_33 : decode b_Mod_invoke 33 = .ok (.getfield 17, 3) := by decide +kernel
theorem d_Mod_invoke_36 : decode b_Mod_invoke 36 = .ok (.iload_n 1, 1) := by decide +kernel
theorem d_Mod_invoke_37 : decode b_Mod_invoke 37 = .ok (.iaload, 1) := by decide +kernel
theorem d_Mod_invoke_38 : decode b_Mod_invoke 38 = .ok (.invokestatic 104, 3) := by decide +kernel
theorem d_Mod_invoke_41 : decode b_Mod_invoke 41 = .ok (.bipush 12, 2) := by decide +kernel
theorem d_Mod_invoke_43 : decode b_Mod_invoke 43 = .ok (.if_icmp .lt 10, 3) := by decide +kernel
theorem d_Mod_invoke_46 : decode b_Mod_invoke 46 = .ok (.aload_n 0, 1) := by decide +kernel
theorem d_Mod_invoke_47 : decode b_Mod_invoke 47 = .ok (.iload_n 1, 1) := by decide +kernel
theorem d_Mod_invoke_48 : decode b_Mod_invoke 48 = .ok (.iconst 3, 1) := by decide +kernel
theorem d_Mod_invoke_49 : decode b_Mod_invoke 49 = .ok (.invokevirtual 208, 3) := by decide +kernel
theorem d_Mod_invoke_52 : decode b_Mod_invoke 52 = .ok (.ireturn, 1) := by decide +kernel
theorem d_Mod_invoke_53 : decode b_Mod_invoke 53 = .ok (.aload_n 0, 1) := by decide +kernel
theorem d_Mod_invoke_54 : decode b_Mod_invoke 54 = .ok (.getfield 17, 3) := by decide +kernel
theorem d_Mod_invoke_57 : decode b_Mod_invoke 57 = .ok (.iload_n 2, 1) := by decide +kernel
theorem d_Mod_invoke_58 : decode b_Mod_invoke 58 = .ok (.iaload, 1) := by decide +kernel
theorem d_Mod_invoke_59 : decode b_Mod_invoke 59 = .ok (.invokestatic 104, 3) := by decide +kernel
theorem d_Mod_invoke_62 : decode b_Mod_invoke 62 = .ok (.bipush 12, 2) := by decide +kernel
theorem d_Mod_invoke_64 : decode b_Mod_invoke 64 = .ok (.if_icmp .lt 10, 3) := by decide +kernel
theorem d_Mod_invoke_67 : decode b_Mod_invoke 67 = .ok (.aload_n 0, 1) := by decide +kernel
theorem d_Mod_invoke_68 : decode b_Mod_invoke 68 = .ok (.iload_n 2, 1) := by decide +kernel
theorem d_Mod_invoke_69 : decode b_Mod_invoke 69 = .ok (.iconst 3, 1) := by decide +kernel
theorem d_Mod_invoke_70 : decode b_Mod_invoke 70 = .ok (.invokevirtual 208, 3) := by decide +kernel
theorem d_Mod_invoke_73 : decode b_Mod_invoke 73 = .ok (.ireturn, 1) := by decide +kernel
theorem d_Mod_invoke_74 : decode b_Mod_invoke 74 = .ok (.aload_n 0, 1) := by decide +kernel
theorem d_Mod_invoke_75 : decode b_Mod_invoke 75 = .ok (.getfield 17, 3) := by decide +kernel
theorem d_Mod_invoke_78 : decode b_Mod_invoke 78 = .ok (.iload_n 1, 1) := by decide +kernel
theorem d_Mod_invoke_79 : decode b_Mod_invoke 79 = .ok (.iaload, 1) := by decide +kernel
theorem d_Mod_invoke_80 : decode b_Mod_invoke 80 = .ok (.invokestatic 104, 3) := by decide +kernel
theorem d_Mod_invoke_83 : decode b_Mod_invoke 83 = .ok (.aload_n 0, 1) := by decide +kernel
theorem d_Mod_invoke_84 : decode b_Mod_invoke 84 = .ok (.getfield 17, 3) := by decide +kernel
theorem d_Mod_invoke_87 : decode b_Mod_invoke 87 = .ok (.iload_n 2, 1) := by decide +kernel
theorem d_Mod_invoke_88 : decode b_Mod_invoke 88 = .ok (.iaload, 1) := by decide +kernel
theorem d_Mod_invoke_89 : decode b_Mod_invoke 89 = .ok (.invokestatic 104, 3) := by decide +kernel
theorem d_Mod_invoke_92 : decode b_Mod_invoke 92 = .ok (.if_icmp .eq 10, 3) := by decide +kernel
theorem d_Mod_invoke_95 : decode b_Mod_invoke 95 = .ok (.aload_n 0, 1) := by decide +kernel
theorem d_Mod_invoke_96 : decode b_Mod_invoke 96 = .ok (.iload_n 1, 1) := by decide +kernel
theorem d_Mod_invoke_97 : decode b_Mod_invoke 97 = .ok (.iconst 4, 1) := by decide +kernel
theorem d_Mod_invoke_98 : decode b_Mod_invoke 98 = .ok (.invokevirtual 208, 3) := by decide +kernel
theorem d_Mod_invoke_101 : decode b_Mod_invoke 101 = .ok (.ireturn, 1) := by decide +kernel
theorem d_Mod_invoke_102 : decode b_Mod_invoke 102 = .ok (.aload_n 0, 1) := by decide +kernel
theorem d_Mod_invoke_103 : decode b_Mod_invoke 103 = .ok (.iload_n 1, 1) := by decide +kernel
theorem d_Mod_invoke_104 : decode b_Mod_invoke 104 = .ok (.bipush 8, 2) := by decide +kernel
theorem d_Mod_invoke_106 : decode b_Mod_invoke 106 = .ok (.invokevirtual 122, 3) := by decide +kernel
theorem d_Mod_invoke_109 : decode b_Mod_invoke 109 = .ok (.ifCond .ne 11, 3) := by decide +kernel
theorem d_Mod_invoke_112 : decode b_Mod_invoke 112 = .ok (.aload_n 0, 1) := by decide +kernel
theorem d_Mod_invoke_113 : decode b_Mod_invoke 113 = .ok (.iload_n 1, 1) := by decide +kernel
theorem d_Mod_invoke_114 : decode b_Mod_invoke 114 = .ok (.bipush 25, 2) := by decide +kernel
theorem d_Mod_invoke_116 : decode b_Mod_invoke 116 = .ok (.invokevirtual 208, 3) := by decide +kernel
theorem d_Mod_invoke_119 : decode b_Mod_invoke 119 = .ok (.ireturn, 1) := by decide +kernel
theorem d_Mod_invoke_120 : decode b_Mod_invoke 120 = .ok (.aload_n 0, 1) := by decide +kernel
theorem d_Mod_invoke_121 : decode b_Mod_invoke 121 = .ok (.iload_n 2, 1) := by decide +kernel
theorem d_Mod_invoke_122 : decode b_Mod_invoke 122 = .ok (.bipush 8, 2) := by decide +kernel
theorem d_Mod_invoke_124 : decode b_Mod_invoke 124 = .ok (.invokevirtual 122, 3) := by decide +kernel
theorem d_Mod_invoke_127 : decode b_Mod_invoke 127 = .ok (.ifCond .ne 11, 3) := by decide +kernel
theorem d_Mod_invoke_130 : decode b_Mod_invoke 130 = .ok (.aload_n 0, 1) := by decide +kernel
theorem d_Mod_invoke_131 : decode b_Mod_invoke 131 = .ok (.iload_n 2, 1) := by decide +kernel
theorem d_Mod_invoke_132 : decode b_Mod_invoke 132 = .ok (.bipush 25, 2) := by decide +kernel
theorem d_Mod_invoke_134 : decode b_Mod_invoke 134 = .ok (.invokevirtual 208, 3) := by decide +kernel
theorem d_Mod_invoke_137 : decode b_Mod_invoke 137 = .ok (.ireturn, 1) := by decide +kernel
theorem d_Mod_invoke_138 : decode b_Mod_invoke 138 = .ok (.aload_n 0, 1) := by decide +kernel
theorem d_Mod_invoke_139 : decode b_Mod_invoke 139 = .ok (.iload_n 1, 1) := by decide +kernel
theorem d_Mod_invoke_140 : decode b_Mod_invoke 140 = .ok (.iconst 1, 1) := by decide +kernel
theorem d_Mod_invoke_141 : decode b_Mod_invoke 141 = .ok (.invokevirtual 122, 3) := by decide +kernel
theorem d_Mod_invoke_144 : decode b_Mod_invoke 144 = .ok (.ifCond .ne 11, 3) := by decide +kernel
theorem d_Mod_invoke_147 : decode b_Mod_invoke 147 = .ok (.aload_n 0, 1) := by decide +kernel
theorem d_Mod_invoke_148 : decode b_Mod_invoke 148 = .ok (.iload_n 1, 1) := by decide +kernel
theorem d_Mod_invoke_149 : decode b_Mod_invoke 149 = .ok (.bipush 17, 2) := by decide +kernel
theorem d_Mod_invoke_151 : decode b_Mod_invoke 151 = .ok (.invokevirtual 208, 3) := by decide +kernel
theorem d_Mod_invoke_154 : decode b_Mod_invoke 154 = .ok (.ireturn, 1) := by decide +kernel
theorem d_Mod_invoke_155 : decode b_Mod_invoke 155 = .ok (.aload_n 0, 1) := by decide +kernel
theorem d_Mod_invoke_156 : decode b_Mod_invoke 156 = .ok (.iload_n 2, 1) := by decide +kernel
theorem d_Mod_invoke_157 : decode b_Mod_invoke 157 = .ok (.iconst 1, 1) := by decide +kernel
theorem d_Mod_invoke_158 : decode b_Mod_invoke 158 = .ok (.invokevirtual 122, 3) := by decide +kernel
theorem d_Mod_invoke_161 : decode b_Mod_invoke 161 = .ok (.ifCond .eq 11, 3) := by decide +kernel
theorem d_Mod_invoke_164 : decode b_Mod_invoke 164 = .ok (.aload_n 0, 1) := by decide +kernel
theorem d_Mod_invoke_165 : decode b_Mod_invoke 165 = .ok (.iload_n 2, 1) := by decide +kernel
theorem d_Mod_invoke_166 : decode b_Mod_invoke 166 = .ok (.bipush 17, 2) := by decide +kernel
theorem d_Mod_invoke_168 : decode b_Mod_invoke 168 = .ok (.invokevirtual 208, 3) := by decide +kernel
theorem d_Mod_invoke_171 : decode b_Mod_invoke 171 = .ok (.ireturn, 1) := by decide +kernel
theorem d_Mod_invoke_172 : decode b_Mod_invoke 172 = .ok (.aload_n 0, 1) := by decide +kernel
theorem d_Mod_invoke_173 : decode b_Mod_invoke 173 = .ok (.getfield 13, 3) := by decide +kernel
theorem d_Mod_invoke_176 : decode b_Mod_invoke 176 = .ok (.iload_n 1, 1) := by decide +kernel
theorem d_Mod_invoke_177 : decode b_Mod_invoke 177 = .ok (.iaload, 1) := by decide +kernel
theorem d_Mod_invoke_178 : decode b_Mod_invoke 178 = .ok (.bipush (-2), 2) := by decide +kernel
theorem d_Mod_invoke_180 : decode b_Mod_invoke 180 = .ok (.iand, 1) := by decide +kernel
theorem d_Mod_invoke_181 : decode b_Mod_invoke 181 = .ok (.istore_n 3, 1) := by decide +kernel
theorem d_Mod_invoke_182 : decode b_Mod_invoke 182 = .ok (.aload_n 0, 1) := by decide +kernel
theorem d_Mod_invoke_183 : decode b_Mod_invoke 183 = .ok (.iload_n 1, 1) := by decide +kernel
theorem d_Mod_invoke_184 : decode b_Mod_invoke 184 = .ok (.iload_n 3, 1) := by decide +kernel
theorem d_Mod_invoke_185 : decode b_Mod_invoke 185 = .ok (.invokestatic 58, 3) := by decide +kernel
theorem d_Mod_invoke_188 : decode b_Mod_invoke 188 = .ok (.iconst 4, 1) := by decide +kernel
theorem d_Mod_invoke_189 : decode b_Mod_invoke 189 = .ok (.invokevirtual 126, 3) := by decide +kernel
theorem d_Mod_invoke_192 : decode b_Mod_invoke 192 = .ok (.ifCond .ne 10, 3) := by decide +kernel
theorem d_Mod_invoke_195 : decode b_Mod_invoke 195 = .ok (.aload_n 0, 1) := by decide +kernel
theorem d_Mod_invoke_196 : decode b_Mod_invoke 196 = .ok (.iload_n 1, 1) := by decide +kernel
theorem d_Mod_invoke_197 : decode b_Mod_invoke 197 = .ok (.iconst 1, 1) := by decide +kernel
theorem d_Mod_invoke_198 : decode b_Mod_invoke 198 = .ok (.invokevirtual 208, 3) := by decide +kernel
theorem d_Mod_invoke_201 : decode b_Mod_invoke 201 = .ok (.ireturn, 1) := by decide +kernel
theorem d_Mod_invoke_202 : decode b_Mod_invoke 202 = .ok (.iload_n 3, 1) := by decide +kernel
theorem d_Mod_invoke_203 : decode b_Mod_invoke 203 = .ok (.iconst 3, 1) := by decide +kernel
theorem d_Mod_invoke_204 : decode b_Mod_invoke 204 = .ok (.iand, 1) := by decide +kernel
theorem d_Mod_invoke_205 : decode b_Mod_invoke 205 = .ok (.ifCond .eq 10, 3) := by decide +kernel
theorem d_Mod_invoke_208 : decode b_Mod_invoke 208 = .ok (.aload_n 0, 1) := by decide +kernel
theorem d_Mod_invoke_209 : decode b_Mod_invoke 209 = .ok (.iconst 0, 1) := by decide +kernel
theorem d_Mod_invoke_210 : decode b_Mod_invoke 210 = .ok (.iload_n 3, 1) := by decide +kernel
theorem d_Mod_invoke_211 : decode b_Mod_invoke 211 = .ok (.invokevirtual 159, 3) := by decide +kernel
theorem d_Mod_invoke_214 : decode b_Mod_invoke 214 = .ok (.ireturn, 1) := by decide +kernel
theorem d_Mod_invoke_215 : decode b_Mod_invoke 215 = .ok (.aload_n 0, 1) := by decide +kernel
theorem d_Mod_invoke_216 : decode b_Mod_invoke 216 = .ok (.bipush 38, 2) := by decide +kernel
theorem d_Mod_invoke_218 : decode b_Mod_invoke 218 = .ok (.aload_n 0, 1) := by decide +kernel
theorem d_Mod_invoke_219 : decode b_Mod_invoke 219 = .ok (.getfield 7, 3) := by decide +kernel
theorem d_Mod_invoke_222 : decode b_Mod_invoke 222 = .ok (.iload_n 2, 1) := by decide +kernel
theorem d_Mod_invoke_223 : decode b_Mod_invoke 223 = .ok (.baload, 1) := by decide +kernel
theorem d_Mod_invoke_224 : decode b_Mod_invoke 224 = .ok (.aload_n 0, 1) := by decide +kernel
theorem d_Mod_invoke_225 : decode b_Mod_invoke 225 = .ok (.getfield 13, 3) := by decide +kernel
theorem d_Mod_invoke_228 : decode b_Mod_invoke 228 = .ok (.iload_n 2, 1) := by decide +kernel
theorem d_Mod_invoke_229 : decode b_Mod_invoke 229 = .ok (.iaload, 1) := by decide +kernel
theorem d_Mod_invoke_230 : decode b_Mod_invoke 230 = .ok (.aload_n 0, 1) := by decide +kernel
theorem d_Mod_invoke_231 : decode b_Mod_invoke 231 = .ok (.getfield 17, 3) := by decide +kernel
theorem d_Mod_invoke_234 : decode b_Mod_invoke 234 = .ok (.iload_n 2, 1) := by decide +kernel
theorem d_Mod_invoke_235 : decode b_Mod_invoke 235 = .ok (.iaload, 1) := by decide +kernel
theorem d_Mod_invoke_236 : decode b_Mod_invoke 236 = .ok (.bipush 15, 2) := by decide +kernel
theorem d_Mod_invoke_238 : decode b_Mod_invoke 238 = .ok (.invokestatic 204, 3) := by decide +kernel
theorem d_Mod_invoke_241 : decode b_Mod_invoke 241 = .ok (.invokevirtual 100, 3) := by decide +kernel
theorem d_Mod_invoke_244 : decode b_Mod_invoke 244 = .ok (.aload_n 0, 1) := by decide +kernel
theorem d_Mod_invoke_245 : decode b_Mod_invoke 245 = .ok (.bipush 37, 2) := by decide +kernel
theorem d_Mod_invoke_247 : decode b_Mod_invoke 247 = .ok (.iconst 1, 1) := by decide +kernel
theorem d_Mod_invoke_248 : decode b_Mod_invoke 248 = .ok (.aload_n 0, 1) := by decide +kernel
theorem d_Mod_invoke_249 : decode b_Mod_invoke 249 = .ok (.getfield 13, 3) := by decide +kernel
theorem d_Mod_invoke_252 : decode b_Mod_invoke 252 = .ok (.iload_n 1, 1) := by decide +kernel
theorem d_Mod_invoke_253 : decode b_Mod_invoke 253 = .ok (.iaload, 1) := by decide +kernel
theorem d_Mod_invoke_254 : decode b_Mod_invoke 254 = .ok (.aload_n 0, 1) := by decide +kernel
theorem d_Mod_invoke_255 : decode b_Mod_invoke 255 = .ok (.getfield 17, 3) := by decide +kernel
theorem d_Mod_invoke_258 : decode b_Mod_invoke 258 = .ok (.iload_n 1, 1) := by decide +kernel
theorem d_Mod_invoke_259 : decode b_Mod_invoke 259 = .ok (.iaload, 1) := by decide +kernel
theorem d_Mod_invoke_260 : decode b_Mod_invoke 260 = .ok (.bipush 15, 2) := by decide +kernel
theorem d_Mod_invoke_262 : decode b_Mod_invoke 262 = .ok (.invokestatic 204, 3) := by decide +kernel
theorem d_Mod_invoke_265 : decode b_Mod_invoke 265 = .ok (.invokevirtual 100, 3) := by decide +kernel
theorem d_Mod_invoke_268 : decode b_Mod_invoke 268 = .ok (.aload_n 0, 1) := by decide +kernel
theorem d_Mod_invoke_269 : decode b_Mod_invoke 269 = .ok (.bipush 37, 2) := by decide +kernel
theorem d_Mod_invoke_271 : decode b_Mod_invoke 271 = .ok (.iload_n 3, 1) := by decide +kernel
theorem d_Mod_invoke_272 : decode b_Mod_invoke 272 = .ok (.bipush 32, 2) := by decide +kernel
theorem d_Mod_invoke_274 : decode b_Mod_invoke 274 = .ok (.invokevirtual 168, 3) := by decide +kernel
theorem d_Mod_invoke_277 : decode b_Mod_invoke 277 = .ok (.aload_n 0, 1) := by decide +kernel
theorem d_Mod_invoke_278 : decode b_Mod_invoke 278 = .ok (.bipush 38, 2) := by decide +kernel
theorem d_Mod_invoke_280 : decode b_Mod_invoke 280 = .ok (.bipush 31, 2) := by decide +kernel
theorem d_Mod_invoke_282 : decode b_Mod_invoke 282 = .ok (.invokevirtual 139, 3) := by decide +kernel
theorem d_Mod_invoke_285 : decode b_Mod_invoke 285 = .ok (.iconst 0, 1) := by decide +kernel
theorem d_Mod_invoke_286 : decode b_Mod_invoke 286 = .ok (.ireturn, 1) := by decide +kernel
theorem d_Mod_asked_0 : decode b_Mod_asked 0 = .ok (.iload_n 1, 1) := by decide +kernel
theorem d_Mod_asked_1 : decode b_Mod_asked 1 = .ok (.tableswitch 434 0 23 #[111, 124, 166, 181, 205, 227, 250, 434, 267, 290, 333, 353, 434, 434, 434, 365, 434, 374, 434, 434, 434, 434, 434, 421], 111) := by decide +kernel
theorem d_Mod_asked_112 : decode b_Mod_asked 112 = .ok (.aload_n 0, 1) := by decide +kernel
theorem d_Mod_asked_113 : decode b_Mod_asked 113 = .ok (.bipush 37, 2) := by decide +kernel
theorem d_Mod_asked_115 : decode b_Mod_asked 115 = .ok (.iload 4, 2) := by decide +kernel
theorem d_Mod_asked_117 : decode b_Mod_asked 117 = .ok (.invokestatic 111, 3) := by decide +kernel
theorem d_Mod_asked_120 : decode b_Mod_asked 120 = .ok (.invokevirtual 172, 3) := by decide +kernel
theorem d_Mod_asked_123 : decode b_Mod_asked 123 = .ok (.iconst 1, 1) := by decide +kernel
theorem d_Mod_asked_124 : decode b_Mod_asked 124 = .ok (.ireturn, 1) := by decide +kernel
theorem d_Mod_asked_125 : decode b_Mod_asked 125 = .ok (.aload_n 0, 1) := by decide +kernel
theorem d_Mod_asked_126 : decode b_Mod_asked 126 = .ok (.bipush 37, 2) := by decide +kernel
theorem d_Mod_asked_128 : decode b_Mod_asked 128 = .ok (.iload 4, 2) := by decide +kernel
theorem d_Mod_asked_130 : decode b_Mod_asked 130 = .ok (.invokestatic 104, 3) := by decide +kernel
theorem d_Mod_asked_133 : decode b_Mod_asked 133 = .ok (.bipush 15, 2) := by decide +kernel
theorem d_Mod_asked_135 : decode b_Mod_asked 135 = .ok (.if_icmp .ne 7, 3) := by decide +kernel
theorem d_Mod_asked_138 : decode b_Mod_asked 138 = .ok (.iconst (-1), 1) := by decide +kernel
theorem d_Mod_asked_139 : decode b_Mod_asked 139 = .ok (.goto 23, 3) := by decide +kernel
theorem d_Mod_asked_142 : decode b_Mod_asked 142 = .ok (.iload 4, 2) := by decide +kernel
theorem d_Mod_asked_144 : decode b_Mod_asked 144 = .ok (.invokestatic 104, 3) := by decide +kernel
theorem d_Mod_asked_147 : decode b_Mod_asked 147 = .ok (.bipush 14, 2) := by decide +kernel
theorem d_Mod_asked_149 : decode b_Mod_asked 149 = .ok (.if_icmp .ne 8, 3) := by decide +kernel
theorem d_Mod_asked_152 : decode b_Mod_asked 152 = .ok (.bipush (-2), 2) := by decide +kernel
theorem d_Mod_asked_154 : decode b_Mod_asked 154 = .ok (.goto 8, 3) := by decide +kernel
theorem d_Mod_asked_157 : decode b_Mod_asked 157 = .ok (.iload 4, 2) := by decide +kernel
theorem d_Mod_asked_159 : decode b_Mod_asked 159 = .ok (.invokestatic 104, 3) := by decide +kernel
theorem d_Mod_asked_162 : decode b_Mod_asked 162 = .ok (.invokevirtual 172, 3) := by decide +kernel
theorem d_Mod_asked_165 : decode b_Mod_asked 165 = .ok (.iconst 1, 1) := by decide +kernel
theorem d_Mod_asked_166 : decode b_Mod_asked 166 = .ok (.ireturn, 1) := by decide +kernel
theorem d_Mod_asked_167 : decode b_Mod_asked 167 = .ok (.aload_n 0, 1) := by decide +kernel
theorem d_Mod_asked_168 : decode b_Mod_asked 168 = .ok (.bipush 37, 2) := by decide +kernel
theorem d_Mod_asked_170 : decode b_Mod_asked 170 = .ok (.iload 4, 2) := by decide +kernel
theorem d_Mod_asked_172 : decode b_Mod_asked 172 = .ok (.iload_n 3, 1) := by decide +kernel
theorem d_Mod_asked_173 : decode b_Mod_asked 173 = .ok (.invokestatic 75, 3) := by decide +kernel
theorem d_Mod_asked_176 : decode b_Mod_asked 176 = .ok (.l2i, 1) := by decide +kernel
theorem d_Mod_asked_177 : decode b_Mod_asked 177 = .ok (.invokevirtual 172, 3) := by decide +kernel
theorem d_Mod_asked_180 : decode b_Mod_asked 180 = .ok (.iconst 1, 1) := by decide +kernel
theorem d_Mod_asked_181 : decode b_Mod_asked 181 = .ok (.ireturn, 1) := by decide +kernel
theorem d_Mod_asked_182 : decode b_Mod_asked 182 = .ok (.aload_n 0, 1) := by decide +kernel
theorem d_Mod_asked_183 : decode b_Mod_asked 183 = .ok (.bipush 37, 2) := by decide +kernel
theorem d_Mod_asked_185 : decode b_Mod_asked 185 = .ok (.iload 4, 2) := by decide +kernel
theorem d_Mod_asked_187 : decode b_Mod_asked 187 = .ok (.iload_n 3, 1) := by decide +kernel
theorem d_Mod_asked_188 : decode b_Mod_asked 188 = .ok (.invokestatic 80, 3) := by decide +kernel
theorem d_Mod_asked_191 : decode b_Mod_asked 191 = .ok (.iload 4, 2) := by decide +kernel
theorem d_Mod_asked_193 : decode b_Mod_asked 193 = .ok (.iload_n 3, 1) := by decide +kernel
theorem d_Mod_asked_194 : decode b_Mod_asked 194 = .ok (.invokestatic 75, 3) := by decide +kernel
theorem d_Mod_asked_197 : decode b_Mod_asked 197 = .ok (.lsub, 1) := by decide +kernel
theorem d_Mod_asked_198 : decode b_Mod_asked 198 = .ok (.invokestatic 238, 3) := by decide +kernel
theorem d_Mod_asked_201 : decode b_Mod_asked 201 = .ok (.invokevirtual 172, 3) := by decide +kernel
theorem d_Mod_asked_204 : decode b_Mod_asked 204 = .ok (.iconst 1, 1) := by decide +kernel
theorem d_Mod_asked_205 : decode b_Mod_asked 205 = .ok (.ireturn, 1) := by decide +kernel
theorem d_Mod_asked_206 : decode b_Mod_asked 206 = .ok (.aload_n 0, 1) := by decide +kernel
theorem d_Mod_asked_207 : decode b_Mod_asked 207 = .ok (.bipush 37, 2) := by decide +kernel
theorem d_Mod_asked_209 : decode b_Mod_asked 209 = .ok (.aload_n 0, 1) := by decide +kernel
theorem d_Mod_asked_210 : decode b_Mod_asked 210 = .ok (.getfield 7, 3) := by decide +kernel
theorem d_Mod_asked_213 : decode b_Mod_asked 213 = .ok (.iload_n 2, 1) := by decide +kernel
theorem d_Mod_asked_214 : decode b_Mod_asked 214 = .ok (.baload, 1) := by decide +kernel
theorem d_Mod_asked_215 : decode b_Mod_asked 215 = .ok (.ifCond .eq 7, 3) := by decide +kernel
theorem d_Mod_asked_218 : decode b_Mod_asked 218 = .ok (.iconst 1, 1) := by decide +kernel
theorem d_Mod_asked_219 : decode b_Mod_asked 219 = .ok (.goto 4, 3) := by decide +kernel
theorem d_Mod_asked_222 : decode b_Mod_asked 222 = .ok (.iconst 0, 1) := by decide +kernel
theorem d_Mod_asked_223 : decode b_Mod_asked 223 = .ok (.invokevirtual 172, 3) := by decide +kernel
theorem d_Mod_asked_226 : decode b_Mod_asked 226 = .ok (.iconst 1, 1) := by decide +kernel
theorem d_Mod_asked_227 : decode b_Mod_asked 227 = .ok (.ireturn, 1) := by decide +kernel
theorem d_Mod_asked_228 : decode b_Mod_asked 228 = .ok (.aload_n 0, 1) := by decide +kernel
theorem d_Mod_asked_229 : decode b_Mod_asked 229 = .ok (.bipush 37, 2) := by decide +kernel
theorem d_Mod_asked_231 : decode b_Mod_asked 231 = .ok (.iload 4, 2) := by decide +kernel
theorem d_Mod_asked_233 : decode b_Mod_asked 233 = .ok (.invokestatic 104, 3) := by decide +kernel
theorem d_Mod_asked_236 : decode b_Mod_asked 236 = .ok (.bipush 15, 2) := by decide +kernel
theorem d_Mod_asked_238 : decode b_Mod_asked 238 = .ok (.if_icmp .ne 7, 3) := by decide +kernel
theorem d_Mod_asked_241 : decode b_Mod_asked 241 = .ok (.iconst 0, 1) := by decide +kernel
theorem d_Mod_asked_242 : decode b_Mod_asked 242 = .ok (.goto 4, 3) := by decide +kernel
theorem d_Mod_asked_245 : decode b_Mod_asked 245 = .ok (.iconst 1, 1) := by decide +kernel
theorem d_Mod_asked_246 : decode b_Mod_asked 246 = .ok (.invokevirtual 172, 3) := by decide +kernel
theorem d_Mod_asked_249 : decode b_Mod_asked 249 = .ok (.iconst 1, 1) := by decide +kernel
theorem d_Mod_asked_250 : decode b_Mod_asked 250 = .ok (.ireturn, 1) := by decide +kernel
theorem d_Mod_asked_251 : decode b_Mod_asked 251 = .ok (.aload_n 0, 1) := by decide +kernel
theorem d_Mod_asked_252 : decode b_Mod_asked 252 = .ok (.bipush 37, 2) := by decide +kernel
theorem d_Mod_asked_254 : decode b_Mod_asked 254 = .ok (.iload_n 3, 1) := by decide +kernel
theorem d_Mod_asked_255 : decode b_Mod_asked 255 = .ok (.iload 4, 2) := by decide +kernel
theorem d_Mod_asked_257 : decode b_Mod_asked 257 = .ok (.iload_n 3, 1) := by decide +kernel
theorem d_Mod_asked_258 : decode b_Mod_asked 258 = .ok (.invokestatic 75, 3) := by decide +kernel
theorem d_Mod_asked_261 : decode b_Mod_asked 261 = .ok (.l2i, 1) := by decide +kernel
theorem d_Mod_asked_262 : decode b_Mod_asked 262 = .ok (.isub, 1) := by decide +kernel
theorem d_Mod_asked_263 : decode b_Mod_asked 263 = .ok (.invokevirtual 172, 3) := by decide +kernel
theorem d_Mod_asked_266 : decode b_Mod_asked 266 = .ok (.iconst 1, 1) := by decide +kernel
theorem d_Mod_asked_267 : decode b_Mod_asked 267 = .ok (.ireturn, 1) := by decide +kernel
theorem d_Mod_asked_268 : decode b_Mod_asked 268 = .ok (.aload_n 0, 1) := by decide +kernel
theorem d_Mod_asked_269 : decode b_Mod_asked 269 = .ok (.iconst 0, 1) := by decide +kernel
theorem d_Mod_asked_270 : decode b_Mod_asked 270 = .ok (.iload_n 3, 1) := by decide +kernel
theorem d_Mod_asked_271 : decode b_Mod_asked 271 = .ok (.invokestatic 58, 3) := by decide +kernel
theorem d_Mod_asked_274 : decode b_Mod_asked 274 = .ok (.invokevirtual 242, 3) := by decide +kernel
theorem d_Mod_asked_277 : decode b_Mod_asked 277 = .ok (.pop, 1) := by decide +kernel
theorem d_Mod_asked_278 : decode b_Mod_asked 278 = .ok (.aload_n 0, 1) := by decide +kernel
theorem d_Mod_asked_279 : decode b_Mod_asked 279 = .ok (.bipush 37, 2) := by decide +kernel
theorem d_Mod_asked_281 : decode b_Mod_asked 281 = .ok (.aload_n 0, 1) := by decide +kernel
theorem d_Mod_asked_282 : decode b_Mod_asked 282 = .ok (.getfield 94, 3) := by decide +kernel
theorem d_Mod_asked_285 : decode b_Mod_asked 285 = .ok (.l2i, 1) := by decide +kernel
theorem d_Mod_asked_286 : decode b_Mod_asked 286 = .ok (.invokevirtual 172, 3) := by decide +kernel
theorem d_Mod_asked_289 : decode b_Mod_asked 289 = .ok (.iconst 1, 1) := by decide +kernel
theorem d_Mod_asked_290 : decode b_Mod_asked 290 = .ok (.ireturn, 1) := by decide +kernel
theorem d_Mod_asked_291 : decode b_Mod_asked 291 = .ok (.aload_n 0, 1) := by decide +kernel
theorem d_Mod_asked_292 : decode b_Mod_asked 292 = .ok (.iconst 0, 1) := by decide +kernel
theorem d_Mod_asked_293 : decode b_Mod_asked 293 = .ok (.iload_n 3, 1) := by decide +kernel
theorem d_Mod_asked_294 : decode b_Mod_asked 294 = .ok (.invokestatic 58, 3) := by decide +kernel
theorem d_Mod_asked_297 : decode b_Mod_asked 297 = .ok (.invokevirtual 242, 3) := by decide +kernel
theorem d_Mod_asked_300 : decode b_Mod_asked 300 = .ok (.pop, 1) := by decide +kernel
theorem d_Mod_asked_301 : decode b_Mod_asked 301 = .ok (.aload_n 0, 1) := by decide +kernel
theorem d_Mod_asked_302 : decode b_Mod_asked 302 = .ok (.bipush 37, 2) := by decide +kernel
theorem d_Mod_asked_304 : decode b_Mod_asked 304 = .ok (.aload_n 0, 1) := by decide +kernel
theorem d_Mod_asked_305 : decode b_Mod_asked 305 = .ok (.getfield 87, 3) := by decide +kernel
theorem d_Mod_asked_308 : decode b_Mod_asked 308 = .ok (.bipush 14, 2) := by decide +kernel
theorem d_Mod_asked_310 : decode b_Mod_asked 310 = .ok (.ishr, 1) := by decide +kernel
theorem d_Mod_asked_311 : decode b_Mod_asked 311 = .ok (.ifCond .ne 7, 3) := by decide +kernel
theorem d_Mod_asked_314 : decode b_Mod_asked 314 = .ok (.iconst (-1), 1) := by decide +kernel
theorem d_Mod_asked_315 : decode b_Mod_asked 315 = .ok (.goto 14, 3) := by decide +kernel
theorem d_Mod_asked_318 : decode b_Mod_asked 318 = .ok (.iconst (-1), 1) := by decide +kernel
theorem d_Mod_asked_319 : decode b_Mod_asked 319 = .ok (.aload_n 0, 1) := by decide +kernel
theorem d_Mod_asked_320 : decode b_Mod_asked 320 = .ok (.getfield 87, 3) := by decide +kernel
theorem d_Mod_asked_323 : decode b_Mod_asked 323 = .ok (.invokestatic 55, 3) := by decide +kernel
theorem d_Mod_asked_326 : decode b_Mod_asked 326 = .ok (.iconst 3, 1) := by decide +kernel
theorem d_Mod_asked_327 : decode b_Mod_asked 327 = .ok (.iadd, 1) := by decide +kernel
theorem d_Mod_asked_328 : decode b_Mod_asked 328 = .ok (.ishl, 1) := by decide +kernel
theorem d_Mod_asked_329 : decode b_Mod_asked 329 = .ok (.invokevirtual 172, 3) := by decide +kernel
theorem d_Mod_asked_332 : decode b_Mod_asked 332 = .ok (.iconst 1, 1) := by decide +kernel
theorem d_Mod_asked_333 : decode b_Mod_asked 333 = .ok (.ireturn, 1) := by decide +kernel
theorem d_Mod_asked_334 : decode b_Mod_asked 334 = .ok (.aload_n 0, 1) := by decide +kernel
theorem d_Mod_asked_335 : decode b_Mod_asked 335 = .ok (.iload_n 2, 1) := by decide +kernel
theorem d_Mod_asked_336 : decode b_Mod_asked 336 = .ok (.bipush 37, 2) := by decide +kernel
theorem d_Mod_asked_338 : decode b_Mod_asked 338 = .ok (.invokevirtual 139, 3) := by decide +kernel
theorem d_Mod_asked_341 : decode b_Mod_asked 341 = .ok (.iload_n 2, 1) := by decide +kernel
theorem d_Mod_asked_342 : decode b_Mod_asked 342 = .ok (.ifCond .ne 10, 3) := by decide +kernel
theorem d_Mod_asked_345 : decode b_Mod_asked 345 = .ok (.aload_n 0, 1) := by decide +kernel
theorem d_Mod_asked_346 : decode b_Mod_asked 346 = .ok (.bipush 37, 2) := by decide +kernel
theorem d_Mod_asked_348 : decode b_Mod_asked 348 = .ok (.iconst 0, 1) := by decide +kernel
theorem d_Mod_asked_349 : decode b_Mod_asked 349 = .ok (.invokevirtual 172, 3) := by decide +kernel
theorem d_Mod_asked_352 : decode b_Mod_asked 352 = .ok (.iconst 1, 1) := by decide +kernel
theorem d_Mod_asked_353 : decode b_Mod_asked 353 = .ok (.ireturn, 1) := by decide +kernel
theorem d_Mod_asked_354 : decode b_Mod_asked 354 = .ok (.aload_n 0, 1) := by decide +kernel
theorem d_Mod_asked_355 : decode b_Mod_asked 355 = .ok (.bipush 37, 2) := by decide +kernel
theorem d_Mod_asked_357 : decode b_Mod_asked 357 = .ok (.iconst 0, 1) := by decide +kernel
theorem d_Mod_asked_358 : decode b_Mod_asked 358 = .ok (.iload_n 3, 1) := by decide +kernel
theorem d_Mod_asked_359 : decode b_Mod_asked 359 = .ok (.iload 4, 2) := by decide +kernel
theorem d_Mod_asked_361 : decode b_Mod_asked 361 = .ok (.invokevirtual 100, 3) := by decide +kernel
theorem d_Mod_asked_364 : decode b_Mod_asked 364 = .ok (.iconst 1, 1) := by decide +kernel
theorem d_Mod_asked_365 : decode b_Mod_asked 365 = .ok (.ireturn, 1) := by decide +kernel
theorem d_Mod_asked_366 : decode b_Mod_asked 366 = .ok (.aload_n 0, 1) := by decide +kernel
theorem d_Mod_asked_367 : decode b_Mod_asked 367 = .ok (.bipush 37, 2) := by decide +kernel
theorem d_Mod_asked_369 : decode b_Mod_asked 369 = .ok (.iload_n 3, 1) := by decide +kernel
theorem d_Mod_asked_370 : decode b_Mod_asked 370 = .ok (.invokevirtual 172, 3) := by decide +kernel
theorem d_Mod_asked_373 : decode b_Mod_asked 373 = .ok (.iconst 1, 1) := by decide +kernel
theorem d_Mod_asked_374 : decode b_Mod_asked 374 = .ok (.ireturn, 1) := by decide +kernel
theorem d_Mod_asked_375 : decode b_Mod_asked 375 = .ok (.aload_n 0, 1) := by decide +kernel
theorem d_Mod_asked_376 : decode b_Mod_asked 376 = .ok (.bipush 37, 2) := by decide +kernel
theorem d_Mod_asked_378 : decode b_Mod_asked 378 = .ok (.aload_n 0, 1) := by decide +kernel
theorem d_Mod_asked_379 : decode b_Mod_asked 379 = .ok (.getfield 7, 3) := by decide +kernel
theorem d_Mod_asked_382 : decode b_Mod_asked 382 = .ok (.iload_n 2, 1) := by decide +kernel
theorem d_Mod_asked_383 : decode b_Mod_asked 383 = .ok (.baload, 1) := by decide +kernel
theorem d_Mod_asked_384 : decode b_Mod_asked 384 = .ok (.ifCond .eq 24, 3) := by decide +kernel
theorem d_Mod_asked_387 : decode b_Mod_asked 387 = .ok (.aload_n 0, 1) := by decide +kernel
theorem d_Mod_asked_388 : decode b_Mod_asked 388 = .ok (.iload_n 2, 1) := by decide +kernel
theorem d_Mod_asked_389 : decode b_Mod_asked 389 = .ok (.invokevirtual 118, 3) := by decide +kernel
theorem d_Mod_asked_392 : decode b_Mod_asked 392 = .ok (.ifCond .eq 16, 3) := by decide +kernel
theorem d_Mod_asked_395 : decode b_Mod_asked 395 = .ok (.aload_n 0, 1) := by decide +kernel
theorem d_Mod_asked_396 : decode b_Mod_asked 396 = .ok (.iload_n 2, 1) := by decide +kernel
theorem d_Mod_asked_397 : decode b_Mod_asked 397 = .ok (.iconst 1, 1) := by decide +kernel
theorem d_Mod_asked_398 : decode b_Mod_asked 398 = .ok (.invokevirtual 122, 3) := by decide +kernel
theorem d_Mod_asked_401 : decode b_Mod_asked 401 = .ok (.ifCond .eq 7, 3) := by decide +kernel
theorem d_Mod_asked_404 : decode b_Mod_asked 404 = .ok (.iconst 1, 1) := by decide +kernel
theorem d_Mod_asked_405 : decode b_Mod_asked 405 = .ok (.goto 4, 3) := by decide +kernel
theorem d_Mod_asked_408 : decode b_Mod_asked 408 = .ok (.iconst 0, 1) := by decide +kernel
theorem d_Mod_asked_409 : decode b_Mod_asked 409 = .ok (.iload_n 3, 1) := by decide +kernel
theorem d_Mod_asked_410 : decode b_Mod_asked 410 = .ok (.iload 4, 2) := by decide +kernel
theorem d_Mod_asked_412 : decode b_Mod_asked 412 = .ok (.bipush 14, 2) := by decide +kernel
theorem d_Mod_asked_414 : decode b_Mod_asked 414 = .ok (.invokestatic 204, 3) := by decide +kernel
theorem d_Mod_asked_417 : decode b_Mod_asked 417 = .ok (.invokevirtual 100, 3) := by decide +kernel
theorem d_Mod_asked_420 : decode b_Mod_asked 420 = .ok (.iconst 1, 1) := by decide +kernel
theorem d_Mod_asked_421 : decode b_Mod_asked 421 = .ok (.ireturn, 1) := by decide +kernel
theorem d_Mod_asked_422 : decode b_Mod_asked 422 = .ok (.aload_n 0, 1) := by decide +kernel
theorem d_Mod_asked_423 : decode b_Mod_asked 423 = .ok (.bipush 37, 2) := by decide +kernel
theorem d_Mod_asked_425 : decode b_Mod_asked 425 = .ok (.iload 4, 2) := by decide +kernel
theorem d_Mod_asked_427 : decode b_Mod_asked 427 = .ok (.ldc 36, 2) := by decide +kernel
theorem d_Mod_asked_429 : decode b_Mod_asked 429 = .ok (.ixor, 1) := by decide +kernel
theorem d_Mod_asked_430 : decode b_Mod_asked 430 = .ok (.invokevirtual 172, 3) := by decide +kernel
theorem d_Mod_asked_433 : decode b_Mod_asked 433 = .ok (.iconst 1, 1) := by decide +kernel
theorem d_Mod_asked_434 : decode b_Mod_asked 434 = .ok (.ireturn, 1) := by decide +kernel
theorem d_Mod_asked_435 : decode b_Mod_asked 435 = .ok (.iconst 0, 1) := by decide +kernel
theorem d_Mod_asked_436 : decode b_Mod_asked 436 = .ok (.ireturn, 1) := by decide +kernel
theorem d_Mod_most_0 : decode b_Mod_most 0 = .ok (.lload_n 0, 1) := by decide +kernel
theorem d_Mod_most_1 : decode b_Mod_most 1 = .ok (.ldc2_w 78, 3) := by decide +kernel
theorem d_Mod_most_4 : decode b_Mod_most 4 = .ok (.lcmp, 1) := by decide +kernel
theorem d_Mod_most_5 : decode b_Mod_most 5 = .ok (.ifCond .lt 7, 3) := by decide +kernel
theorem d_Mod_most_8 : decode b_Mod_most 8 = .ok (.iconst (-1), 1) := by decide +kernel
theorem d_Mod_most_9 : decode b_Mod_most 9 = .ok (.goto 5, 3) := by decide +kernel
theorem d_Mod_most_12 : decode b_Mod_most 12 = .ok (.lload_n 0, 1) := by decide +kernel
theorem d_Mod_most_13 : decode b_Mod_most 13 = .ok (.l2i, 1) := by decide +kernel
theorem d_Mod_most_14 : decode b_Mod_most 14 = .ok (.ireturn, 1) := by decide +kernel
theorem d_Mod_packP_0 : decode b_Mod_packP 0 = .ok (.lload_n 2, 1) := by decide +kernel
theorem d_Mod_packP_1 : decode b_Mod_packP 1 = .ok (.lconst 0, 1) := by decide +kernel
theorem d_Mod_packP_2 : decode b_Mod_packP 2 = .ok (.lcmp, 1) := by decide +kernel
theorem d_Mod_packP_3 : decode b_Mod_packP 3 = .ok (.ifCond .lt 24, 3) := by decide +kernel
theorem d_Mod_packP_6 : decode b_Mod_packP 6 = .ok (.iload_n 1, 1) := by decide +kernel
theorem d_Mod_packP_7 : decode b_Mod_packP 7 = .ok (.invokestatic 58, 3) := by decide +kernel
theorem d_Mod_packP_10 : decode b_Mod_packP 10 = .ok (.lload_n 2, 1) := by decide +kernel
theorem d_Mod_packP_11 : decode b_Mod_packP 11 = .ok (.ladd, 1) := by decide +kernel
theorem d_Mod_packP_12 : decode b_Mod_packP 12 = .ok (.ldc2_w 78, 3) := by decide +kernel
theorem d_Mod_packP_15 : decode b_Mod_packP 15 = .ok (.lcmp, 1) := by decide +kernel
theorem d_Mod_packP_16 : decode b_Mod_packP 16 = .ok (.ifCond .gt 11, 3) := by decide +kernel
theorem d_Mod_packP_19 : decode b_Mod_packP 19 = .ok (.lload_n 2, 1) := by decide +kernel
theorem d_Mod_packP_20 : decode b_Mod_packP 20 = .ok (.ldc2_w 78, 3) := by decide +kernel
theorem d_Mod_packP_23 : decode b_Mod_packP 23 = .ok (.lcmp, 1) := by decide +kernel
theorem d_Mod_packP_24 : decode b_Mod_packP 24 = .ok (.ifCond .le 9, 3) := by decide +kernel
theorem d_Mod_packP_27 : decode b_Mod_packP 27 = .ok (.aload_n 0, 1) := by decide +kernel
theorem d_Mod_packP_28 : decode b_Mod_packP 28 = .ok (.iconst 1, 1) := by decide +kernel
theorem d_Mod_packP_29 : decode b_Mod_packP 29 = .ok (.invokevirtual 245, 3) := by decide +kernel
theorem d_Mod_packP_32 : decode b_Mod_packP 32 = .ok (.ireturn, 1) := by decide +kernel
theorem d_Mod_packP_33 : decode b_Mod_packP 33 = .ok (.aload_n 0, 1) := by decide +kernel
theorem d_Mod_packP_34 : decode b_Mod_packP 34 = .ok (.iconst 0, 1) := by decide +kernel
theorem d_Mod_packP_35 : decode b_Mod_packP 35 = .ok (.putfield 37, 3) := by decide +kernel
theorem d_Mod_packP_38 : decode b_Mod_packP 38 = .ok (.aload_n 0, 1) := by decide +kernel
theorem d_Mod_packP_39 : decode b_Mod_packP 39 = .ok (.iload_n 1, 1) := by decide +kernel
theorem d_Mod_packP_40 : decode b_Mod_packP 40 = .ok (.invokestatic 58, 3) := by decide +kernel
theorem d_Mod_packP_43 : decode b_Mod_packP 43 = .ok (.iload_n 1, 1) := by decide +kernel
theorem d_Mod_packP_44 : decode b_Mod_packP 44 = .ok (.invokestatic 58, 3) := by decide +kernel
theorem d_Mod_packP_47 : decode b_Mod_packP 47 = .ok (.lload_n 2, 1) := by decide +kernel
theorem d_Mod_packP_48 : decode b_Mod_packP 48 = .ok (.ladd, 1) := by decide +kernel
theorem d_Mod_packP_49 : decode b_Mod_packP 49 = .ok (.invokevirtual 213, 3) := by decide +kernel
theorem d_Mod_packP_52 : decode b_Mod_packP 52 = .ok (.aload_n 0, 1) := by decide +kernel
theorem d_Mod_packP_53 : decode b_Mod_packP 53 = .ok (.getfield 87, 3) := by decide +kernel
theorem d_Mod_packP_56 : decode b_Mod_packP 56 = .ok (.aload_n 0, 1) := by decide +kernel
theorem d_Mod_packP_57 : decode b_Mod_packP 57 = .ok (.getfield 90, 3) := by decide +kernel
theorem d_Mod_packP_60 : decode b_Mod_packP 60 = .ok (.ifCond .eq 8, 3) := by decide +kernel
theorem d_Mod_packP_63 : decode b_Mod_packP 63 = .ok (.ldc 255, 2) := by decide +kernel
theorem d_Mod_packP_65 : decode b_Mod_packP 65 = .ok (.goto 4, 3) := by decide +kernel
theorem d_Mod_packP_68 : decode b_Mod_packP 68 = .ok (.iconst 0, 1) := by decide +kernel
theorem d_Mod_packP_69 : decode b_Mod_packP 69 = .ok (.ior, 1) := by decide +kernel
theorem d_Mod_packP_70 : decode b_Mod_packP 70 = .ok (.ireturn, 1) := by decide +kernel
theorem d_Mod_told_0 : decode b_Mod_told 0 = .ok (.iload_n 1, 1) := by decide +kernel
theorem d_Mod_told_1 : decode b_Mod_told 1 = .ok (.ifCond .lt 9, 3) := by decide +kernel
theorem d_Mod_told_4 : decode b_Mod_told 4 = .ok (.iload_n 1, 1) := by decide +kernel
theorem d_Mod_told_5 : decode b_Mod_told 5 = .ok (.bipush 37, 2) := by decide +kernel
theorem d_Mod_told_7 : decode b_Mod_told 7 = .ok (.if_icmp .lt 9, 3) := by decide +kernel
theorem d_Mod_told_10 : decode b_Mod_told 10 = .ok (.aload_n 0, 1) := by decide +kernel
theorem d_Mod_told_11 : decode b_Mod_told 11 = .ok (.iconst 1, 1) := by decide +kernel
theorem d_Mod_told_12 : decode b_Mod_told 12 = .ok (.invokevirtual 245, 3) := by decide +kernel
theorem d_Mod_told_15 : decode b_Mod_told 15 = .ok (.ireturn, 1) := by decide +kernel
theorem d_Mod_told_16 : decode b_Mod_told 16 = .ok (.iload_n 2, 1) := by decide +kernel
theorem d_Mod_told_17 : decode b_Mod_told 17 = .ok (.ifCond .lt 9, 3) := by decide +kernel
theorem d_Mod_told_20 : decode b_Mod_told 20 = .ok (.iload_n 2, 1) := by decide +kernel
theorem d_Mod_told_21 : decode b_Mod_told 21 = .ok (.bipush 6, 2) := by decide +kernel
theorem d_Mod_told_23 : decode b_Mod_told 23 = .ok (.if_icmp .le 9, 3) := by decide +kernel
theorem d_Mod_told_26 : decode b_Mod_told 26 = .ok (.aload_n 0, 1) := by decide +kernel
theorem d_Mod_told_27 : decode b_Mod_told 27 = .ok (.iconst 2, 1) := by decide +kernel
theorem d_Mod_told_28 : decode b_Mod_told 28 = .ok (.invokevirtual 245, 3) := by decide +kernel
theorem d_Mod_told_31 : decode b_Mod_told 31 = .ok (.ireturn, 1) := by decide +kernel
theorem d_Mod_told_32 : decode b_Mod_told 32 = .ok (.aload_n 0, 1) := by decide +kernel
theorem d_Mod_told_33 : decode b_Mod_told 33 = .ok (.iconst 0, 1) := by decide +kernel
theorem d_Mod_told_34 : decode b_Mod_told 34 = .ok (.putfield 37, 3) := by decide +kernel
theorem d_Mod_told_37 : decode b_Mod_told 37 = .ok (.aload_n 0, 1) := by decide +kernel
theorem d_Mod_told_38 : decode b_Mod_told 38 = .ok (.getfield 13, 3) := by decide +kernel
theorem d_Mod_told_41 : decode b_Mod_told 41 = .ok (.iload_n 1, 1) := by decide +kernel
theorem d_Mod_told_42 : decode b_Mod_told 42 = .ok (.iaload, 1) := by decide +kernel
theorem d_Mod_told_43 : decode b_Mod_told 43 = .ok (.istore_n 3, 1) := by decide +kernel
theorem d_Mod_told_44 : decode b_Mod_told 44 = .ok (.aload_n 0, 1) := by decide +kernel
theorem d_Mod_told_45 : decode b_Mod_told 45 = .ok (.getfield 17, 3) := by decide +kernel
theorem d_Mod_told_48 : decode b_Mod_told 48 = .ok (.iload_n 1, 1) := by decide +kernel
theorem d_Mod_told_49 : decode b_Mod_told 49 = .ok (.iaload, 1) := by decide +kernel
theorem d_Mod_told_50 : decode b_Mod_told 50 = .ok (.istore 4, 2) := by decide +kernel
theorem d_Mod_told_52 : decode b_Mod_told 52 = .ok (.iload_n 2, 1) := by decide +kernel
theorem d_Mod_told_53 : decode b_Mod_told 53 = .ok (.tableswitch 93 0 5 #[39, 54, 56, 62, 70, 87], 39) := by decide +kernel
theorem d_Mod_told_92 : decode b_Mod_told 92 = .ok (.aload_n 0, 1) := by decide +kernel
theorem d_Mod_told_93 : decode b_Mod_told 93 = .ok (.getfield 7, 3) := by decide +kernel
theorem d_Mod_told_96 : decode b_Mod_told 96 = .ok (.iload_n 1, 1) := by decide +kernel
theorem d_Mod_told_97 : decode b_Mod_told 97 = .ok (.baload, 1) := by decide +kernel
theorem d_Mod_told_98 : decode b_Mod_told 98 = .ok (.ifCond .eq 7, 3) := by decide +kernel
theorem d_Mod_told_101 : decode b_Mod_told 101 = .ok (.iconst 1, 1) := by decide +kernel
theorem d_Mod_told_102 : decode b_Mod_told 102 = .ok (.goto 4, 3) := by decide +kernel
theorem d_Mod_told_105 : decode b_Mod_told 105 = .ok (.iconst 0, 1) := by decide +kernel
theorem d_Mod_told_106 : decode b_Mod_told 106 = .ok (.ireturn, 1) := by decide +kernel
theorem d_Mod_told_107 : decode b_Mod_told 107 = .ok (.iload_n 3, 1) := by decide +kernel
theorem d_Mod_told_108 : decode b_Mod_told 108 = .ok (.ireturn, 1) := by decide +kernel
theorem d_Mod_told_109 : decode b_Mod_told 109 = .ok (.iload 4, 2) := by decide +kernel
theorem d_Mod_told_111 : decode b_Mod_told 111 = .ok (.ldc 36, 2) := by decide +kernel
theorem d_Mod_told_113 : decode b_Mod_told 113 = .ok (.ixor, 1) := by decide +kernel
theorem d_Mod_told_114 : decode b_Mod_told 114 = .ok (.ireturn, 1) := by decide +kernel
theorem d_Mod_told_115 : decode b_Mod_told 115 = .ok (.iload 4, 2) := by decide +kernel
theorem d_Mod_told_117 : decode b_Mod_told 117 = .ok (.iload_n 3, 1) := by decide +kernel
theorem d_Mod_told_118 : decode b_Mod_told 118 = .ok (.invokestatic 75, 3) := by decide +kernel
theorem d_Mod_told_121 : decode b_Mod_told 121 = .ok (.l2i, 1) := by decide +kernel
theorem d_Mod_told_122 : decode b_Mod_told 122 = .ok (.ireturn, 1) := by decide +kernel
theorem d_Mod_told_123 : decode b_Mod_told 123 = .ok (.iload 4, 2) := by decide +kernel
theorem d_Mod_told_125 : decode b_Mod_told 125 = .ok (.iload_n 3, 1) := by decide +kernel
theorem d_Mod_told_126 : decode b_Mod_told 126 = .ok (.invokestatic 80, 3) := by decide +kernel
theorem d_Mod_told_129 : decode b_Mod_told 129 = .ok (.iload 4, 2) := by decide +kernel
theorem d_Mod_told_131 : decode b_Mod_told 131 = .ok (.iload_n 3, 1) := by decide +kernel
theorem d_Mod_told_132 : decode b_Mod_told 132 = .ok (.invokestatic 75, 3) := by decide +kernel
theorem d_Mod_told_135 : decode b_Mod_told 135 = .ok (.lsub, 1) := by decide +kernel
theorem d_Mod_told_136 : decode b_Mod_told 136 = .ok (.invokestatic 238, 3) := by decide +kernel
theorem d_Mod_told_139 : decode b_Mod_told 139 = .ok (.ireturn, 1) := by decide +kernel
theorem d_Mod_told_140 : decode b_Mod_told 140 = .ok (.iload 4, 2) := by decide +kernel
theorem d_Mod_told_142 : decode b_Mod_told 142 = .ok (.invokestatic 111, 3) := by decide +kernel
theorem d_Mod_told_145 : decode b_Mod_told 145 = .ok (.ireturn, 1) := by decide +kernel
theorem d_Mod_told_146 : decode b_Mod_told 146 = .ok (.iload 4, 2) := by decide +kernel
theorem d_Mod_told_148 : decode b_Mod_told 148 = .ok (.invokestatic 104, 3) := by decide +kernel
theorem d_Mod_told_151 : decode b_Mod_told 151 = .ok (.ireturn, 1) := by decide +kernel
theorem d_Mod_memory_0 : decode b_Mod_memory 0 = .ok (.iload_n 1, 1) := by decide +kernel
theorem d_Mod_memory_1 : decode b_Mod_memory 1 = .ok (.ifCond .lt 10, 3) := by decide +kernel
theorem d_Mod_memory_4 : decode b_Mod_memory 4 = .ok (.iload_n 1, 1) := by decide +kernel
theorem d_Mod_memory_5 : decode b_Mod_memory 5 = .ok (.sipush 4096, 3) := by decide +kernel
theorem d_Mod_memory_8 : decode b_Mod_memory 8 = .ok (.if_icmp .lt 9, 3) := by decide +kernel
theorem d_Mod_memory_11 : decode b_Mod_memory 11 = .ok (.aload_n 0, 1) := by decide +kernel
theorem d_Mod_memory_12 : decode b_Mod_memory 12 = .ok (.iconst 1, 1) := by decide +kernel
theorem d_Mod_memory_13 : decode b_Mod_memory 13 = .ok (.invokevirtual 245, 3) := by decide +kernel
theorem d_Mod_memory_16 : decode b_Mod_memory 16 = .ok (.ireturn, 1) := by decide +kernel
theorem d_Mod_memory_17 : decode b_Mod_memory 17 = .ok (.aload_n 0, 1) := by decide +kernel
theorem d_Mod_memory_18 : decode b_Mod_memory 18 = .ok (.iconst 0, 1) := by decide +kernel
theorem d_Mod_memory_19 : decode b_Mod_memory 19 = .ok (.putfield 37, 3) := by decide +kernel
theorem d_Mod_memory_22 : decode b_Mod_memory 22 = .ok (.aload_n 0, 1) := by decide +kernel
theorem d_Mod_memory_23 : decode b_Mod_memory 23 = .ok (.getfield 20, 3) := by decide +kernel
theorem d_Mod_memory_26 : decode b_Mod_memory 26 = .ok (.iload_n 1, 1) := by decide +kernel
theorem d_Mod_memory_27 : decode b_Mod_memory 27 = .ok (.iaload, 1) := by decide +kernel
theorem d_Mod_memory_28 : decode b_Mod_memory 28 = .ok (.ireturn, 1) := by decide +kernel
theorem d_Mod_tag_0 : decode b_Mod_tag 0 = .ok (.aload_n 0, 1) := by decide +kernel
theorem d_Mod_tag_1 : decode b_Mod_tag 1 = .ok (.iload_n 1, 1) := by decide +kernel
theorem d_Mod_tag_2 : decode b_Mod_tag 2 = .ok (.ifCond .lt 10, 3) := by decide +kernel
theorem d_Mod_tag_5 : decode b_Mod_tag 5 = .ok (.iload_n 1, 1) := by decide +kernel
theorem d_Mod_tag_6 : decode b_Mod_tag 6 = .ok (.sipush 4096, 3) := by decide +kernel
theorem d_Mod_tag_9 : decode b_Mod_tag 9 = .ok (.if_icmp .lt 7, 3) := by decide +kernel
theorem d_Mod_tag_12 : decode b_Mod_tag 12 = .ok (.iconst 1, 1) := by decide +kernel
theorem d_Mod_tag_13 : decode b_Mod_tag 13 = .ok (.goto 4, 3) := by decide +kernel
theorem d_Mod_tag_16 : decode b_Mod_tag 16 = .ok (.iconst 0, 1) := by decide +kernel
theorem d_Mod_tag_17 : decode b_Mod_tag 17 = .ok (.putfield 37, 3) := by decide +kernel
theorem d_Mod_tag_20 : decode b_Mod_tag 20 = .ok (.aload_n 0, 1) := by decide +kernel
theorem d_Mod_tag_21 : decode b_Mod_tag 21 = .ok (.getfield 37, 3) := by decide +kernel
theorem d_Mod_tag_24 : decode b_Mod_tag 24 = .ok (.ifCond .ne 18, 3) := by decide +kernel
theorem d_Mod_tag_27 : decode b_Mod_tag 27 = .ok (.aload_n 0, 1) := by decide +kernel
theorem d_Mod_tag_28 : decode b_Mod_tag 28 = .ok (.getfield 23, 3) := by decide +kernel
theorem d_Mod_tag_31 : decode b_Mod_tag 31 = .ok (.iload_n 1, 1) := by decide +kernel
theorem d_Mod_tag_32 : decode b_Mod_tag 32 = .ok (.iconst 2, 1) := by decide +kernel
theorem d_Mod_tag_33 : decode b_Mod_tag 33 = .ok (.idiv, 1) := by decide +kernel
theorem d_Mod_tag_34 : decode b_Mod_tag 34 = .ok (.baload, 1) := by decide +kernel
theorem d_Mod_tag_35 : decode b_Mod_tag 35 = .ok (.ifCond .eq 7, 3) := by decide +kernel
theorem d_Mod_tag_38 : decode b_Mod_tag 38 = .ok (.iconst 1, 1) := by decide +kernel
theorem d_Mod_tag_39 : decode b_Mod_tag 39 = .ok (.goto 4, 3) := by decide +kernel
theorem d_Mod_tag_42 : decode b_Mod_tag 42 = .ok (.iconst 0, 1) := by decide +kernel
theorem d_Mod_tag_43 : decode b_Mod_tag 43 = .ok (.ireturn, 1) := by decide +kernel
theorem d_Mod_count_0 : decode b_Mod_count 0 = .ok (.iload_n 1, 1) := by decide +kernel
theorem d_Mod_count_1 : decode b_Mod_count 1 = .ok (.ifCond .lt 9, 3) := by decide +kernel
theorem d_Mod_count_4 : decode b_Mod_count 4 = .ok (.iload_n 1, 1) := by decide +kernel
theorem d_Mod_count_5 : decode b_Mod_count 5 = .ok (.bipush 6, 2) := by decide +kernel
theorem d_Mod_count_7 : decode b_Mod_count 7 = .ok (.if_icmp .le 9, 3) := by decide +kernel
theorem d_Mod_count_10 : decode b_Mod_count 10 = .ok (.aload_n 0, 1) := by decide +kernel
theorem d_Mod_count_11 : decode b_Mod_count 11 = .ok (.iconst 1, 1) := by decide +kernel
theorem d_Mod_count_12 : decode b_Mod_count 12 = .ok (.invokevirtual 245, 3) := by decide +kernel
theorem d_Mod_count_15 : decode b_Mod_count 15 = .ok (.ireturn, 1) := by decide +kernel
theorem d_Mod_count_16 : decode b_Mod_count 16 = .ok (.aload_n 0, 1) := by decide +kernel
theorem d_Mod_count_17 : decode b_Mod_count 17 = .ok (.iconst 0, 1) := by decide +kernel
theorem d_Mod_count_18 : decode b_Mod_count 18 = .ok (.putfield 37, 3) := by decide +kernel
theorem d_Mod_count_21 : decode b_Mod_count 21 = .ok (.iconst 0, 1) := by decide +kernel
theorem d_Mod_count_22 : decode b_Mod_count 22 = .ok (.istore_n 2, 1) := by decide +kernel
theorem d_Mod_count_23 : decode b_Mod_count 23 = .ok (.iconst 0, 1) := by decide +kernel
theorem d_Mod_count_24 : decode b_Mod_count 24 = .ok (.istore_n 3, 1) := by decide +kernel
theorem d_Mod_count_25 : decode b_Mod_count 25 = .ok (.iload_n 3, 1) := by decide +kernel
theorem d_Mod_count_26 : decode b_Mod_count 26 = .ok (.sipush 2048, 3) := by decide +kernel
theorem d_Mod_count_29 : decode b_Mod_count 29 = .ok (.if_icmp .ge 21, 3) := by decide +kernel
theorem d_Mod_count_32 : decode b_Mod_count 32 = .ok (.aload_n 0, 1) := by decide +kernel
theorem d_Mod_count_33 : decode b_Mod_count 33 = .ok (.getfield 23, 3) := by decide +kernel
theorem d_Mod_count_36 : decode b_Mod_count 36 = .ok (.iload_n 3, 1) := by decide +kernel
theorem d_Mod_count_37 : decode b_Mod_count 37 = .ok (.baload, 1) := by decide +kernel
theorem d_Mod_count_38 : decode b_Mod_count 38 = .ok (.ifCond .eq 6, 3) := by decide +kernel
theorem d_Mod_count_41 : decode b_Mod_count 41 = .ok (.iinc 2 1, 3) := by decide +kernel
theorem d_Mod_count_44 : decode b_Mod_count 44 = .ok (.iinc 3 1, 3) := by decide +kernel
theorem d_Mod_count_47 : decode b_Mod_count 47 = .ok (.goto (-22), 3) := by decide +kernel
theorem d_Mod_count_50 : decode b_Mod_count 50 = .ok (.iload_n 1, 1) := by decide +kernel
theorem d_Mod_count_51 : decode b_Mod_count 51 = .ok (.ifCond .ne 18, 3) := by decide +kernel
theorem d_Mod_count_54 : decode b_Mod_count 54 = .ok (.aload_n 0, 1) := by decide +kernel
theorem d_Mod_count_55 : decode b_Mod_count 55 = .ok (.getfield 156, 3) := by decide +kernel
theorem d_Mod_count_58 : decode b_Mod_count 58 = .ok (.ifCond .eq 7, 3) := by decide +kernel
theorem d_Mod_count_61 : decode b_Mod_count 61 = .ok (.iconst 1, 1) := by decide +kernel
theorem d_Mod_count_62 : decode b_Mod_count 62 = .ok (.goto 68, 3) := by decide +kernel
theorem d_Mod_count_65 : decode b_Mod_count 65 = .ok (.iconst 0, 1) := by decide +kernel
theorem d_Mod_count_66 : decode b_Mod_count 66 = .ok (.goto 64, 3) := by decide +kernel
theorem d_Mod_count_69 : decode b_Mod_count 69 = .ok (.iload_n 1, 1) := by decide +kernel
theorem d_Mod_count_70 : decode b_Mod_count 70 = .ok (.iconst 1, 1) := by decide +kernel
theorem d_Mod_count_71 : decode b_Mod_count 71 = .ok (.if_icmp .ne 10, 3) := by decide +kernel
theorem d_Mod_count_74 : decode b_Mod_count 74 = .ok (.aload_n 0, 1) := by decide +kernel
theorem d_Mod_count_75 : decode b_Mod_count 75 = .ok (.getfield 143, 3) := by decide +kernel
theorem d_Mod_count_78 : decode b_Mod_count 78 = .ok (.goto 52, 3) := by decide +kernel
theorem d_Mod_count_81 : decode b_Mod_count 81 = .ok (.iload_n 1, 1) := by decide +kernel
theorem d_Mod_count_82 : decode b_Mod_count 82 = .ok (.iconst 2, 1) := by decide +kernel
theorem d_Mod_count_83 : decode b_Mod_count 83 = .ok (.if_icmp .ne 10, 3) := by decide +kernel
theorem d_Mod_count_86 : decode b_Mod_count 86 = .ok (.aload_n 0, 1) := by decide +kernel
theorem d_Mod_count_87 : decode b_Mod_count 87 = .ok (.getfield 146, 3) := by decide +kernel
theorem d_Mod_count_90 : decode b_Mod_count 90 = .ok (.goto 40, 3) := by decide +kernel
theorem d_Mod_count_93 : decode b_Mod_count 93 = .ok (.iload_n 1, 1) := by decide +kernel
theorem d_Mod_count_94 : decode b_Mod_count 94 = .ok (.iconst 3, 1) := by decide +kernel
theorem d_Mod_count_95 : decode b_Mod_count 95 = .ok (.if_icmp .ne 10, 3) := by decide +kernel
theorem d_Mod_count_98 : decode b_Mod_count 98 = .ok (.aload_n 0, 1) := by decide +kernel
theorem d_Mod_count_99 : decode b_Mod_count 99 = .ok (.getfield 162, 3) := by decide +kernel
theorem d_Mod_count_102 : decode b_Mod_count 102 = .ok (.goto 28, 3) := by decide +kernel
theorem d_Mod_count_105 : decode b_Mod_count 105 = .ok (.iload_n 1, 1) := by decide +kernel
theorem d_Mod_count_106 : decode b_Mod_count 106 = .ok (.iconst 4, 1) := by decide +kernel
theorem d_Mod_count_107 : decode b_Mod_count 107 = .ok (.if_icmp .ne 10, 3) := by decide +kernel
theorem d_Mod_count_110 : decode b_Mod_count 110 = .ok (.aload_n 0, 1) := by decide +kernel
theorem d_Mod_count_111 : decode b_Mod_count 111 = .ok (.getfield 149, 3) := by decide +kernel
theorem d_Mod_count_114 : decode b_Mod_count 114 = .ok (.goto 16, 3) := by decide +kernel
theorem d_Mod_count_117 : decode b_Mod_count 117 = .ok (.iload_n 1, 1) := by decide +kernel
theorem d_Mod_count_118 : decode b_Mod_count 118 = .ok (.iconst 5, 1) := by decide +kernel
theorem d_Mod_count_119 : decode b_Mod_count 119 = .ok (.if_icmp .ne 10, 3) := by decide +kernel
theorem d_Mod_count_122 : decode b_Mod_count 122 = .ok (.aload_n 0, 1) := by decide +kernel
theorem d_Mod_count_123 : decode b_Mod_count 123 = .ok (.getfield 248, 3) := by decide +kernel
theorem d_Mod_count_126 : decode b_Mod_count 126 = .ok (.goto 4, 3) := by decide +kernel
theorem d_Mod_count_129 : decode b_Mod_count 129 = .ok (.iload_n 2, 1) := by decide +kernel
theorem d_Mod_count_130 : decode b_Mod_count 130 = .ok (.ireturn, 1) := by decide +kernel
theorem d_Mod_bound_0 : decode b_Mod_bound 0 = .ok (.aload_n 0, 1) := by decide +kernel
theorem d_Mod_bound_1 : decode b_Mod_bound 1 = .ok (.iconst 0, 1) := by decide +kernel
theorem d_Mod_bound_2 : decode b_Mod_bound 2 = .ok (.putfield 37, 3) := by decide +kernel
theorem d_Mod_bound_5 : decode b_Mod_bound 5 = .ok (.iload_n 3, 1) := by decide +kernel
theorem d_Mod_bound_6 : decode b_Mod_bound 6 = .ok (.ifCond .eq 15, 3) := by decide +kernel
theorem d_Mod_bound_9 : decode b_Mod_bound 9 = .ok (.iload_n 1, 1) := by decide +kernel
theorem d_Mod_bound_10 : decode b_Mod_bound 10 = .ok (.sipush 32767, 3) := by decide +kernel
theorem d_Mod_bound_13 : decode b_Mod_bound 13 = .ok (.iand, 1) := by decide +kernel
theorem d_Mod_bound_14 : decode b_Mod_bound 14 = .ok (.iload_n 2, 1) := by decide +kernel
theorem d_Mod_bound_15 : decode b_Mod_bound 15 = .ok (.invokestatic 80, 3) := by decide +kernel
theorem d_Mod_bound_18 : decode b_Mod_bound 18 = .ok (.goto 12, 3) := by decide +kernel
theorem d_Mod_bound_21 : decode b_Mod_bound 21 = .ok (.iload_n 1, 1) := by decide +kernel
theorem d_Mod_bound_22 : decode b_Mod_bound 22 = .ok (.sipush 32767, 3) := by decide +kernel
theorem d_Mod_bound_25 : decode b_Mod_bound 25 = .ok (.iand, 1) := by decide +kernel
theorem d_Mod_bound_26 : decode b_Mod_bound 26 = .ok (.iload_n 2, 1) := by decide +kernel
theorem d_Mod_bound_27 : decode b_Mod_bound 27 = .ok (.invokestatic 75, 3) := by decide +kernel
theorem d_Mod_bound_30 : decode b_Mod_bound 30 = .ok (.lreturn, 1) := by decide +kernel
theorem d_Mod_grown_0 : decode b_Mod_grown 0 = .ok (.aload_n 0, 1) := by decide +kernel
theorem d_Mod_grown_1 : decode b_Mod_grown 1 = .ok (.iconst 0, 1) := by decide +kernel
theorem d_Mod_grown_2 : decode b_Mod_grown 2 = .ok (.putfield 37, 3) := by decide +kernel
theorem d_Mod_grown_5 : decode b_Mod_grown 5 = .ok (.iconst 0, 1) := by decide +kernel
theorem d_Mod_grown_6 : decode b_Mod_grown 6 = .ok (.istore_n 1, 1) := by decide +kernel
theorem d_Mod_grown_7 : decode b_Mod_grown 7 = .ok (.iconst 0, 1) := by decide +kernel
theorem d_Mod_grown_8 : decode b_Mod_grown 8 = .ok (.istore_n 2, 1) := by decide +kernel
theorem d_Mod_grown_9 : decode b_Mod_grown 9 = .ok (.iload_n 2, 1) := by decide +kernel
theorem d_Mod_grown_10 : decode b_Mod_grown 10 = .ok (.bipush 37, 2) := by decide +kernel
theorem d_Mod_grown_12 : decode b_Mod_grown 12 = .ok (.if_icmp .ge 40, 3) := by decide +kernel
theorem d_Mod_grown_15 : decode b_Mod_grown 15 = .ok (.aload_n 0, 1) := by decide +kernel
theorem d_Mod_grown_16 : decode b_Mod_grown 16 = .ok (.getfield 7, 3) := by decide +kernel
theorem d_Mod_grown_19 : decode b_Mod_grown 19 = .ok (.iload_n 2, 1) := by decide +kernel
theorem d_Mod_grown_20 : decode b_Mod_grown 20 = .ok (.baload, 1) := by decide +kernel
theorem d_Mod_grown_21 : decode b_Mod_grown 21 = .ok (.ifCond .eq 25, 3) := by decide +kernel
theorem d_Mod_grown_24 : decode b_Mod_grown 24 = .ok (.aload_n 0, 1) := by decide +kernel
theorem d_Mod_grown_25 : decode b_Mod_grown 25 = .ok (.aload_n 0, 1) := by decide +kernel
theorem d_Mod_grown_26 : decode b_Mod_grown 26 = .ok (.getfield 17, 3) := by decide +kernel
theorem d_Mod_grown_29 : decode b_Mod_grown 29 = .ok (.iload_n 2, 1) := by decide +kernel
theorem d_Mod_grown_30 : decode b_Mod_grown 30 = .ok (.iaload, 1) := by decide +kernel
theorem d_Mod_grown_31 : decode b_Mod_grown 31 = .ok (.aload_n 0, 1) := by decide +kernel
theorem d_Mod_grown_32 : decode b_Mod_grown 32 = .ok (.getfield 13, 3) := by decide +kernel
theorem d_Mod_grown_35 : decode b_Mod_grown 35 = .ok (.iload_n 2, 1) := by decide +kernel
theorem d_Mod_grown_36 : decode b_Mod_grown 36 = .ok (.iaload, 1) := by decide +kernel
theorem d_Mod_grown_37 : decode b_Mod_grown 37 = .ok (.invokevirtual 256, 3) := by decide +kernel
theorem d_Mod_grown_40 : decode b_Mod_grown 40 = .ok (.ifCond .ne 6, 3) := by decide +kernel
theorem d_Mod_grown_43 : decode b_Mod_grown 43 = .ok (.iinc 1 1, 3) := by decide +kernel
theorem d_Mod_grown_46 : decode b_Mod_grown 46 = .ok (.iinc 2 1, 3) := by decide +kernel
theorem d_Mod_grown_49 : decode b_Mod_grown 49 = .ok (.goto (-40), 3) := by decide +kernel
theorem d_Mod_grown_52 : decode b_Mod_grown 52 = .ok (.iconst 0, 1) := by decide +kernel
theorem d_Mod_grown_53 : decode b_Mod_grown 53 = .ok (.istore_n 2, 1) := by decide +kernel
theorem d_Mod_grown_54 : decode b_Mod_grown 54 = .ok (.iload_n 2, 1) := by decide +kernel
theorem d_Mod_grown_55 : decode b_Mod_grown 55 = .ok (.sipush 2048, 3) := by decide +kernel
theorem d_Mod_grown_58 : decode b_Mod_grown 58 = .ok (.if_icmp .ge 49, 3) := by decide +kernel
theorem d_Mod_grown_61 : decode b_Mod_grown 61 = .ok (.aload_n 0, 1) := by decide +kernel
theorem d_Mod_grown_62 : decode b_Mod_grown 62 = .ok (.getfield 23, 3) := by decide +kernel
theorem d_Mod_grown_65 : decode b_Mod_grown 65 = .ok (.iload_n 2, 1) := by decide +kernel
theorem d_Mod_grown_66 : decode b_Mod_grown 66 = .ok (.baload, 1) := by decide +kernel
theorem d_Mod_grown_67 : decode b_Mod_grown 67 = .ok (.ifCond .eq 34, 3) := by decide +kernel
theorem d_Mod_grown_70 : decode b_Mod_grown 70 = .ok (.aload_n 0, 1) := by decide +kernel
theorem d_Mod_grown_71 : decode b_Mod_grown 71 = .ok (.aload_n 0, 1) := by decide +kernel
theorem d_Mod_grown_72 : decode b_Mod_grown 72 = .ok (.getfield 20, 3) := by decide +kernel
theorem d_Mod_grown_75 : decode b_Mod_grown 75 = .ok (.iconst 2, 1) := by decide +kernel
theorem d_Mod_grown_76 : decode b_Mod_grown 76 = .ok (.iload_n 2, 1) := by decide +kernel
theorem d_Mod_grown_77 : decode b_Mod_grown 77 = .ok (.imul, 1) := by decide +kernel
theorem d_Mod_grown_78 : decode b_Mod_grown 78 = .ok (.iconst 1, 1) := by decide +kernel
theorem d_Mod_grown_79 : decode b_Mod_grown 79 = .ok (.iadd, 1) := by decide +kernel
theorem d_Mod_grown_80 : decode b_Mod_grown 80 = .ok (.iaload, 1) := by decide +kernel
theorem d_Mod_grown_81 : decode b_Mod_grown 81 = .ok (.ldc 36, 2) := by decide +kernel
theorem d_Mod_grown_83 : decode b_Mod_grown 83 = .ok (.ixor, 1) := by decide +kernel
theorem d_Mod_grown_84 : decode b_Mod_grown 84 = .ok (.aload_n 0, 1) := by decide +kernel
theorem d_Mod_grown_85 : decode b_Mod_grown 85 = .ok (.getfield 20, 3) := by decide +kernel
theorem d_Mod_grown_88 : decode b_Mod_grown 88 = .ok (.iconst 2, 1) := by decide +kernel
theorem d_Mod_grown_89 : decode b_Mod_grown 89 = .ok (.iload_n 2, 1) := by decide +kernel
theorem d_Mod_grown_90 : decode b_Mod_grown 90 = .ok (.imul, 1) := by decide +kernel
theorem d_Mod_grown_91 : decode b_Mod_grown 91 = .ok (.iaload, 1) := by decide +kernel
theorem d_Mod_grown_92 : decode b_Mod_grown 92 = .ok (.invokevirtual 256, 3) := by decide +kernel
theorem d_Mod_grown_95 : decode b_Mod_grown 95 = .ok (.ifCond .ne 6, 3) := by decide +kernel
theorem d_Mod_grown_98 : decode b_Mod_grown 98 = .ok (.iinc 1 1, 3) := by decide +kernel
theorem d_Mod_grown_101 : decode b_Mod_grown 101 = .ok (.iinc 2 1, 3) := by decide +kernel
theorem d_Mod_grown_104 : decode b_Mod_grown 104 = .ok (.goto (-50), 3) := by decide +kernel
theorem d_Mod_grown_107 : decode b_Mod_grown 107 = .ok (.iload_n 1, 1) := by decide +kernel
theorem d_Mod_grown_108 : decode b_Mod_grown 108 = .ok (.ireturn, 1) := by decide +kernel
theorem d_Mod_isOfRoot_0 : decode b_Mod_isOfRoot 0 = .ok (.iconst 0, 1) := by decide +kernel
theorem d_Mod_isOfRoot_1 : decode b_Mod_isOfRoot 1 = .ok (.istore_n 3, 1) := by decide +kernel
theorem d_Mod_isOfRoot_2 : decode b_Mod_isOfRoot 2 = .ok (.iload_n 3, 1) := by decide +kernel
theorem d_Mod_isOfRoot_3 : decode b_Mod_isOfRoot 3 = .ok (.aload_n 0, 1) := by decide +kernel
theorem d_Mod_isOfRoot_4 : decode b_Mod_isOfRoot 4 = .ok (.getfield 248, 3) := by decide +kernel
theorem d_Mod_isOfRoot_7 : decode b_Mod_isOfRoot 7 = .ok (.if_icmp .ge 57, 3) := by decide +kernel
theorem d_Mod_isOfRoot_10 : decode b_Mod_isOfRoot 10 = .ok (.iload_n 1, 1) := by decide +kernel
theorem d_Mod_isOfRoot_11 : decode b_Mod_isOfRoot 11 = .ok (.iload_n 2, 1) := by decide +kernel
theorem d_Mod_isOfRoot_12 : decode b_Mod_isOfRoot 12 = .ok (.invokestatic 75, 3) := by decide +kernel
theorem d_Mod_isOfRoot_15 : decode b_Mod_isOfRoot 15 = .ok (.aload_n 0, 1) := by decide +kernel
theorem d_Mod_isOfRoot_16 : decode b_Mod_isOfRoot 16 = .ok (.getfield 26, 3) := by decide +kernel
theorem d_Mod_isOfRoot_19 : decode b_Mod_isOfRoot 19 = .ok (.iload_n 3, 1) := by decide +kernel
theorem d_Mod_isOfRoot_20 : decode b_Mod_isOfRoot 20 = .ok (.laload, 1) := by decide +kernel
theorem d_Mod_isOfRoot_21 : decode b_Mod_isOfRoot 21 = .ok (.lcmp, 1) := by decide +kernel
theorem d_Mod_isOfRoot_22 : decode b_Mod_isOfRoot 22 = .ok (.ifCond .lt 36, 3) := by decide +kernel
theorem d_Mod_isOfRoot_25 : decode b_Mod_isOfRoot 25 = .ok (.iload_n 1, 1) := by decide +kernel
theorem d_Mod_isOfRoot_26 : decode b_Mod_isOfRoot 26 = .ok (.iload_n 2, 1) := by decide +kernel
theorem d_Mod_isOfRoot_27 : decode b_Mod_isOfRoot 27 = .ok (.invokestatic 80, 3) := by decide +kernel
theorem d_Mod_isOfRoot_30 : decode b_Mod_isOfRoot 30 = .ok (.aload_n 0, 1) := by decide +kernel
theorem d_Mod_isOfRoot_31 : decode b_Mod_isOfRoot 31 = .ok (.getfield 30, 3) := by decide +kernel
theorem d_Mod_isOfRoot_34 : decode b_Mod_isOfRoot 34 = .ok (.iload_n 3, 1) := by decide +kernel
theorem d_Mod_isOfRoot_35 : decode b_Mod_isOfRoot 35 = .ok (.laload, 1) := by decide +kernel
theorem d_Mod_isOfRoot_36 : decode b_Mod_isOfRoot 36 = .ok (.lcmp, 1) := by decide +kernel
theorem d_Mod_isOfRoot_37 : decode b_Mod_isOfRoot 37 = .ok (.ifCond .gt 21, 3) := by decide +kernel
theorem d_Mod_isOfRoot_40 : decode b_Mod_isOfRoot 40 = .ok (.iload_n 1, 1) := by decide +kernel
theorem d_Mod_isOfRoot_41 : decode b_Mod_isOfRoot 41 = .ok (.invokestatic 111, 3) := by decide +kernel
theorem d_Mod_isOfRoot_44 : decode b_Mod_isOfRoot 44 = .ok (.aload_n 0, 1) := by decide +kernel
theorem d_Mod_isOfRoot_45 : decode b_Mod_isOfRoot 45 = .ok (.getfield 33, 3) := by decide +kernel
theorem d_Mod_isOfRoot_48 : decode b_Mod_isOfRoot 48 = .ok (.iload_n 3, 1) := by decide +kernel
theorem d_Mod_isOfRoot_49 : decode b_Mod_isOfRoot 49 = .ok (.iaload, 1) := by decide +kernel
theorem d_Mod_isOfRoot_50 : decode b_Mod_isOfRoot 50 = .ok (.iconst (-1), 1) := by decide +kernel
theorem d_Mod_isOfRoot_51 : decode b_Mod_isOfRoot 51 = .ok (.ixor, 1) := by decide +kernel
theorem d_Mod_isOfRoot_52 : decode b_Mod_isOfRoot 52 = .ok (.iand, 1) := by decide +kernel
theorem d_Mod_isOfRoot_53 : decode b_Mod_isOfRoot 53 = .ok (.ifCond .ne 5, 3) := by decide +kernel
theorem d_Mod_isOfRoot_56 : decode b_Mod_isOfRoot 56 = .ok (.iconst 1, 1) := by decide +kernel
theorem d_Mod_isOfRoot_57 : decode b_Mod_isOfRoot 57 = .ok (.ireturn, 1) := by decide +kernel
theorem d_Mod_isOfRoot_58 : decode b_Mod_isOfRoot 58 = .ok (.iinc 3 1, 3) := by decide +kernel
theorem d_Mod_isOfRoot_61 : decode b_Mod_isOfRoot 61 = .ok (.goto (-59), 3) := by decide +kernel
theorem d_Mod_isOfRoot_64 : decode b_Mod_isOfRoot 64 = .ok (.iconst 0, 1) := by decide +kernel
theorem d_Mod_isOfRoot_65 : decode b_Mod_isOfRoot 65 = .ok (.ireturn, 1) := by decide +kernel
theorem d_Mod_check_0 : decode b_Mod_check 0 = .ok (.aload_n 0, 1) := by decide +kernel
theorem d_Mod_check_1 : decode b_Mod_check 1 = .ok (.iconst 0, 1) := by decide +kernel
theorem d_Mod_check_2 : decode b_Mod_check 2 = .ok (.putfield 37, 3) := by decide +kernel
theorem d_Mod_check_5 : decode b_Mod_check 5 = .ok (.iconst 0, 1) := by decide +kernel
theorem d_Mod_check_6 : decode b_Mod_check 6 = .ok (.ireturn, 1) := by decide +kernel
