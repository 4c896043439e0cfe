theorem d_Cor_init_0 : decode b_Cor_init 0 = .ok (.aload_n 0, 1) := by decide +kernel
theorem d_Cor_init_1 : decode b_Cor_init 1 = .ok (.invokespecial 3, 3) := by decide +kernel
theorem d_Cor_init_4 : decode b_Cor_init 4 = .ok (.aload_n 0, 1) := by decide +kernel
theorem d_Cor_init_5 : decode b_Cor_init 5 = .ok (.new 9, 3) := by decide +kernel
theorem d_Cor_init_8 : decode b_Cor_init 8 = .ok (.dup, 1) := by decide +kernel
theorem d_Cor_init_9 : decode b_Cor_init 9 = .ok (.invokespecial 11, 3) := by decide +kernel
theorem d_Cor_init_12 : decode b_Cor_init 12 = .ok (.putfield 12, 3) := by decide +kernel
theorem d_Cor_init_15 : decode b_Cor_init 15 = .ok (.aload_n 0, 1) := by decide +kernel
theorem d_Cor_init_16 : decode b_Cor_init 16 = .ok (.new 16, 3) := by decide +kernel
theorem d_Cor_init_19 : decode b_Cor_init 19 = .ok (.dup, 1) := by decide +kernel
theorem d_Cor_init_20 : decode b_Cor_init 20 = .ok (.aload_n 0, 1) := by decide +kernel
theorem d_Cor_init_21 : decode b_Cor_init 21 = .ok (.getfield 12, 3) := by decide +kernel
theorem d_Cor_init_24 : decode b_Cor_init 24 = .ok (.invokespecial 18, 3) := by decide +kernel
theorem d_Cor_init_27 : decode b_Cor_init 27 = .ok (.putfield 21, 3) := by decide +kernel
theorem d_Cor_init_30 : decode b_Cor_init 30 = .ok (.aload_n 0, 1) := by decide +kernel
theorem d_Cor_init_31 : decode b_Cor_init 31 = .ok (.new 25, 3) := by decide +kernel
theorem d_Cor_init_34 : decode b_Cor_init 34 = .ok (.dup, 1) := by decide +kernel
theorem d_Cor_init_35 : decode b_Cor_init 35 = .ok (.aload_n 0, 1) := by decide +kernel
theorem d_Cor_init_36 : decode b_Cor_init 36 = .ok (.getfield 12, 3) := by decide +kernel
theorem d_Cor_init_39 : decode b_Cor_init 39 = .ok (.invokespecial 27, 3) := by decide +kernel
theorem d_Cor_init_42 : decode b_Cor_init 42 = .ok (.putfield 28, 3) := by decide +kernel
theorem d_Cor_init_45 : decode b_Cor_init 45 = .ok (.aload_n 0, 1) := by decide +kernel
theorem d_Cor_init_46 : decode b_Cor_init 46 = .ok (.new 32, 3) := by decide +kernel
theorem d_Cor_init_49 : decode b_Cor_init 49 = .ok (.dup, 1) := by decide +kernel
theorem d_Cor_init_50 : decode b_Cor_init 50 = .ok (.invokespecial 34, 3) := by decide +kernel
theorem d_Cor_init_53 : decode b_Cor_init 53 = .ok (.putfield 35, 3) := by decide +kernel
theorem d_Cor_init_56 : decode b_Cor_init 56 = .ok (.aload_n 0, 1) := by decide +kernel
theorem d_Cor_init_57 : decode b_Cor_init 57 = .ok (.new 39, 3) := by decide +kernel
theorem d_Cor_init_60 : decode b_Cor_init 60 = .ok (.dup, 1) := by decide +kernel
theorem d_Cor_init_61 : decode b_Cor_init 61 = .ok (.invokespecial 41, 3) := by decide +kernel
theorem d_Cor_init_64 : decode b_Cor_init 64 = .ok (.putfield 42, 3) := by decide +kernel
theorem d_Cor_init_67 : decode b_Cor_init 67 = .ok (.aload_n 0, 1) := by decide +kernel
theorem d_Cor_init_68 : decode b_Cor_init 68 = .ok (.bipush 8, 2) := by decide +kernel
theorem d_Cor_init_70 : decode b_Cor_init 70 = .ok (.anewarray 39, 3) := by decide +kernel
theorem d_Cor_init_73 : decode b_Cor_init 73 = .ok (.putfield 46, 3) := by decide +kernel
theorem d_Cor_init_76 : decode b_Cor_init 76 = .ok (.iconst 0, 1) := by decide +kernel
theorem d_Cor_init_77 : decode b_Cor_init 77 = .ok (.istore_n 1, 1) := by decide +kernel
theorem d_Cor_init_78 : decode b_Cor_init 78 = .ok (.iload_n 1, 1) := by decide +kernel
theorem d_Cor_init_79 : decode b_Cor_init 79 = .ok (.bipush 8, 2) := by decide +kernel
theorem d_Cor_init_81 : decode b_Cor_init 81 = .ok (.if_icmp .ge 22, 3) := by decide +kernel
theorem d_Cor_init_84 : decode b_Cor_init 84 = .ok (.aload_n 0, 1) := by decide +kernel
theorem d_Cor_init_85 : decode b_Cor_init 85 = .ok (.getfield 46, 3) := by decide +kernel
theorem d_Cor_init_88 : decode b_Cor_init 88 = .ok (.iload_n 1, 1) := by decide +kernel
theorem d_Cor_init_89 : decode b_Cor_init 89 = .ok (.new 39, 3) := by decide +kernel
theorem d_Cor_init_92 : decode b_Cor_init 92 = .ok (.dup, 1) := by decide +kernel
theorem d_Cor_init_93 : decode b_Cor_init 93 = .ok (.invokespecial 41, 3) := by decide +kernel
theorem d_Cor_init_96 : decode b_Cor_init 96 = .ok (.aastore, 1) := by decide +kernel
theorem d_Cor_init_97 : decode b_Cor_init 97 = .ok (.iinc 1 1, 3) := by decide +kernel
theorem d_Cor_init_100 : decode b_Cor_init 100 = .ok (.goto (-22), 3) := by decide +kernel
theorem d_Cor_init_103 : decode b_Cor_init 103 = .ok (.return_, 1) := by decide +kernel
theorem d_Cor_bound_0 : decode b_Cor_bound 0 = .ok (.aload_n 0, 1) := by decide +kernel
theorem d_Cor_bound_1 : decode b_Cor_bound 1 = .ok (.getfield 42, 3) := by decide +kernel
theorem d_Cor_bound_4 : decode b_Cor_bound 4 = .ok (.iconst 0, 1) := by decide +kernel
theorem d_Cor_bound_5 : decode b_Cor_bound 5 = .ok (.iload_n 2, 1) := by decide +kernel
theorem d_Cor_bound_6 : decode b_Cor_bound 6 = .ok (.iload_n 1, 1) := by decide +kernel
theorem d_Cor_bound_7 : decode b_Cor_bound 7 = .ok (.sipush 32767, 3) := by decide +kernel
theorem d_Cor_bound_10 : decode b_Cor_bound 10 = .ok (.iand, 1) := by decide +kernel
theorem d_Cor_bound_11 : decode b_Cor_bound 11 = .ok (.invokevirtual 118, 3) := by decide +kernel
theorem d_Cor_bound_14 : decode b_Cor_bound 14 = .ok (.iload_n 3, 1) := by decide +kernel
theorem d_Cor_bound_15 : decode b_Cor_bound 15 = .ok (.ifCond .eq 13, 3) := by decide +kernel
theorem d_Cor_bound_18 : decode b_Cor_bound 18 = .ok (.aload_n 0, 1) := by decide +kernel
theorem d_Cor_bound_19 : decode b_Cor_bound 19 = .ok (.getfield 42, 3) := by decide +kernel
theorem d_Cor_bound_22 : decode b_Cor_bound 22 = .ok (.getfield 192, 3) := by decide +kernel
theorem d_Cor_bound_25 : decode b_Cor_bound 25 = .ok (.goto 10, 3) := by decide +kernel
theorem d_Cor_bound_28 : decode b_Cor_bound 28 = .ok (.aload_n 0, 1) := by decide +kernel
theorem d_Cor_bound_29 : decode b_Cor_bound 29 = .ok (.getfield 42, 3) := by decide +kernel
theorem d_Cor_bound_32 : decode b_Cor_bound 32 = .ok (.getfield 126, 3) := by decide +kernel
theorem d_Cor_bound_35 : decode b_Cor_bound 35 = .ok (.lreturn, 1) := by decide +kernel
theorem d_Cor_grown_0 : decode b_Cor_grown 0 = .ok (.iconst 0, 1) := by decide +kernel
theorem d_Cor_grown_1 : decode b_Cor_grown 1 = .ok (.istore_n 1, 1) := by decide +kernel
theorem d_Cor_grown_2 : decode b_Cor_grown 2 = .ok (.iconst 0, 1) := by decide +kernel
theorem d_Cor_grown_3 : decode b_Cor_grown 3 = .ok (.istore_n 2, 1) := by decide +kernel
theorem d_Cor_grown_4 : decode b_Cor_grown 4 = .ok (.iload_n 2, 1) := by decide +kernel
theorem d_Cor_grown_5 : decode b_Cor_grown 5 = .ok (.bipush 37, 2) := by decide +kernel
theorem d_Cor_grown_7 : decode b_Cor_grown 7 = .ok (.if_icmp .ge 33, 3) := by decide +kernel
theorem d_Cor_grown_10 : decode b_Cor_grown 10 = .ok (.iload_n 1, 1) := by decide +kernel
theorem d_Cor_grown_11 : decode b_Cor_grown 11 = .ok (.aload_n 0, 1) := by decide +kernel
theorem d_Cor_grown_12 : decode b_Cor_grown 12 = .ok (.aload_n 0, 1) := by decide +kernel
theorem d_Cor_grown_13 : decode b_Cor_grown 13 = .ok (.getfield 12, 3) := by decide +kernel
theorem d_Cor_grown_16 : decode b_Cor_grown 16 = .ok (.getfield 111, 3) := by decide +kernel
theorem d_Cor_grown_19 : decode b_Cor_grown 19 = .ok (.iload_n 2, 1) := by decide +kernel
theorem d_Cor_grown_20 : decode b_Cor_grown 20 = .ok (.aaload, 1) := by decide +kernel
theorem d_Cor_grown_21 : decode b_Cor_grown 21 = .ok (.invokevirtual 195, 3) := by decide +kernel
theorem d_Cor_grown_24 : decode b_Cor_grown 24 = .ok (.ifCond .eq 7, 3) := by decide +kernel
theorem d_Cor_grown_27 : decode b_Cor_grown 27 = .ok (.iconst 1, 1) := by decide +kernel
theorem d_Cor_grown_28 : decode b_Cor_grown 28 = .ok (.goto 4, 3) := by decide +kernel
theorem d_Cor_grown_31 : decode b_Cor_grown 31 = .ok (.iconst 0, 1) := by decide +kernel
theorem d_Cor_grown_32 : decode b_Cor_grown 32 = .ok (.iadd, 1) := by decide +kernel
theorem d_Cor_grown_33 : decode b_Cor_grown 33 = .ok (.istore_n 1, 1) := by decide +kernel
theorem d_Cor_grown_34 : decode b_Cor_grown 34 = .ok (.iinc 2 1, 3) := by decide +kernel
theorem d_Cor_grown_37 : decode b_Cor_grown 37 = .ok (.goto (-33), 3) := by decide +kernel
theorem d_Cor_grown_40 : decode b_Cor_grown 40 = .ok (.iconst 0, 1) := by decide +kernel
theorem d_Cor_grown_41 : decode b_Cor_grown 41 = .ok (.istore_n 2, 1) := by decide +kernel
theorem d_Cor_grown_42 : decode b_Cor_grown 42 = .ok (.iload_n 2, 1) := by decide +kernel
theorem d_Cor_grown_43 : decode b_Cor_grown 43 = .ok (.sipush 4096, 3) := by decide +kernel
theorem d_Cor_grown_46 : decode b_Cor_grown 46 = .ok (.if_icmp .ge 77, 3) := by decide +kernel
theorem d_Cor_grown_49 : decode b_Cor_grown 49 = .ok (.aload_n 0, 1) := by decide +kernel
theorem d_Cor_grown_50 : decode b_Cor_grown 50 = .ok (.getfield 12, 3) := by decide +kernel
theorem d_Cor_grown_53 : decode b_Cor_grown 53 = .ok (.getfield 61, 3) := by decide +kernel
theorem d_Cor_grown_56 : decode b_Cor_grown 56 = .ok (.iload_n 2, 1) := by decide +kernel
theorem d_Cor_grown_57 : decode b_Cor_grown 57 = .ok (.invokevirtual 166, 3) := by decide +kernel
theorem d_Cor_grown_60 : decode b_Cor_grown 60 = .ok (.ifCond .eq 57, 3) := by decide +kernel
theorem d_Cor_grown_63 : decode b_Cor_grown 63 = .ok (.aload_n 0, 1) := by decide +kernel
theorem d_Cor_grown_64 : decode b_Cor_grown 64 = .ok (.getfield 42, 3) := by decide +kernel
theorem d_Cor_grown_67 : decode b_Cor_grown 67 = .ok (.iconst 1, 1) := by decide +kernel
theorem d_Cor_grown_68 : decode b_Cor_grown 68 = .ok (.aload_n 0, 1) := by decide +kernel
theorem d_Cor_grown_69 : decode b_Cor_grown 69 = .ok (.getfield 12, 3) := by decide +kernel
theorem d_Cor_grown_72 : decode b_Cor_grown 72 = .ok (.getfield 61, 3) := by decide +kernel
theorem d_Cor_grown_75 : decode b_Cor_grown 75 = .ok (.iload_n 2, 1) := by decide +kernel
theorem d_Cor_grown_76 : decode b_Cor_grown 76 = .ok (.invokevirtual 163, 3) := by decide +kernel
theorem d_Cor_grown_79 : decode b_Cor_grown 79 = .ok (.aload_n 0, 1) := by decide +kernel
theorem d_Cor_grown_80 : decode b_Cor_grown 80 = .ok (.getfield 12, 3) := by decide +kernel
theorem d_Cor_grown_83 : decode b_Cor_grown 83 = .ok (.getfield 61, 3) := by decide +kernel
theorem d_Cor_grown_86 : decode b_Cor_grown 86 = .ok (.iload_n 2, 1) := by decide +kernel
theorem d_Cor_grown_87 : decode b_Cor_grown 87 = .ok (.iconst 1, 1) := by decide +kernel
theorem d_Cor_grown_88 : decode b_Cor_grown 88 = .ok (.iadd, 1) := by decide +kernel
theorem d_Cor_grown_89 : decode b_Cor_grown 89 = .ok (.invokevirtual 163, 3) := by decide +kernel
theorem d_Cor_grown_92 : decode b_Cor_grown 92 = .ok (.ldc 130, 2) := by decide +kernel
theorem d_Cor_grown_94 : decode b_Cor_grown 94 = .ok (.ixor, 1) := by decide +kernel
theorem d_Cor_grown_95 : decode b_Cor_grown 95 = .ok (.invokevirtual 118, 3) := by decide +kernel
theorem d_Cor_grown_98 : decode b_Cor_grown 98 = .ok (.iload_n 1, 1) := by decide +kernel
theorem d_Cor_grown_99 : decode b_Cor_grown 99 = .ok (.aload_n 0, 1) := by decide +kernel
theorem d_Cor_grown_100 : decode b_Cor_grown 100 = .ok (.aload_n 0, 1) := by decide +kernel
theorem d_Cor_grown_101 : decode b_Cor_grown 101 = .ok (.getfield 42, 3) := by decide +kernel
theorem d_Cor_grown_104 : decode b_Cor_grown 104 = .ok (.invokevirtual 195, 3) := by decide +kernel
theorem d_Cor_grown_107 : decode b_Cor_grown 107 = .ok (.ifCond .eq 7, 3) := by decide +kernel
theorem d_Cor_grown_110 : decode b_Cor_grown 110 = .ok (.iconst 1, 1) := by decide +kernel
theorem d_Cor_grown_111 : decode b_Cor_grown 111 = .ok (.goto 4, 3) := by decide +kernel
theorem d_Cor_grown_114 : decode b_Cor_grown 114 = .ok (.iconst 0, 1) := by decide +kernel
theorem d_Cor_grown_115 : decode b_Cor_grown 115 = .ok (.iadd, 1) := by decide +kernel
theorem d_Cor_grown_116 : decode b_Cor_grown 116 = .ok (.istore_n 1, 1) := by decide +kernel
theorem d_Cor_grown_117 : decode b_Cor_grown 117 = .ok (.iinc 2 2, 3) := by decide +kernel
theorem d_Cor_grown_120 : decode b_Cor_grown 120 = .ok (.goto (-78), 3) := by decide +kernel
theorem d_Cor_grown_123 : decode b_Cor_grown 123 = .ok (.iload_n 1, 1) := by decide +kernel
theorem d_Cor_grown_124 : decode b_Cor_grown 124 = .ok (.ireturn, 1) := by decide +kernel
theorem d_Cor_isOutsideRoots_0 : decode b_Cor_isOutsideRoots 0 = .ok (.aload_n 1, 1) := by decide +kernel
theorem d_Cor_isOutsideRoots_1 : decode b_Cor_isOutsideRoots 1 = .ok (.getfield 142, 3) := by decide +kernel
theorem d_Cor_isOutsideRoots_4 : decode b_Cor_isOutsideRoots 4 = .ok (.ifCond .ne 5, 3) := by decide +kernel
theorem d_Cor_isOutsideRoots_7 : decode b_Cor_isOutsideRoots 7 = .ok (.iconst 0, 1) := by decide +kernel
theorem d_Cor_isOutsideRoots_8 : decode b_Cor_isOutsideRoots 8 = .ok (.ireturn, 1) := by decide +kernel
theorem d_Cor_isOutsideRoots_9 : decode b_Cor_isOutsideRoots 9 = .ok (.iconst 0, 1) := by decide +kernel
theorem d_Cor_isOutsideRoots_10 : decode b_Cor_isOutsideRoots 10 = .ok (.istore_n 2, 1) := by decide +kernel
theorem d_Cor_isOutsideRoots_11 : decode b_Cor_isOutsideRoots 11 = .ok (.iload_n 2, 1) := by decide +kernel
theorem d_Cor_isOutsideRoots_12 : decode b_Cor_isOutsideRoots 12 = .ok (.aload_n 0, 1) := by decide +kernel
theorem d_Cor_isOutsideRoots_13 : decode b_Cor_isOutsideRoots 13 = .ok (.getfield 96, 3) := by decide +kernel
theorem d_Cor_isOutsideRoots_16 : decode b_Cor_isOutsideRoots 16 = .ok (.if_icmp .ge 24, 3) := by decide +kernel
theorem d_Cor_isOutsideRoots_19 : decode b_Cor_isOutsideRoots 19 = .ok (.aload_n 1, 1) := by decide +kernel
theorem d_Cor_isOutsideRoots_20 : decode b_Cor_isOutsideRoots 20 = .ok (.aload_n 0, 1) := by decide +kernel
theorem d_Cor_isOutsideRoots_21 : decode b_Cor_isOutsideRoots 21 = .ok (.getfield 46, 3) := by decide +kernel
theorem d_Cor_isOutsideRoots_24 : decode b_Cor_isOutsideRoots 24 = .ok (.iload_n 2, 1) := by decide +kernel
theorem d_Cor_isOutsideRoots_25 : decode b_Cor_isOutsideRoots 25 = .ok (.aaload, 1) := by decide +kernel
theorem d_Cor_isOutsideRoots_26 : decode b_Cor_isOutsideRoots 26 = .ok (.invokevirtual 204, 3) := by decide +kernel
theorem d_Cor_isOutsideRoots_29 : decode b_Cor_isOutsideRoots 29 = .ok (.ifCond .eq 5, 3) := by decide +kernel
theorem d_Cor_isOutsideRoots_32 : decode b_Cor_isOutsideRoots 32 = .ok (.iconst 0, 1) := by decide +kernel
theorem d_Cor_isOutsideRoots_33 : decode b_Cor_isOutsideRoots 33 = .ok (.ireturn, 1) := by decide +kernel
theorem d_Cor_isOutsideRoots_34 : decode b_Cor_isOutsideRoots 34 = .ok (.iinc 2 1, 3) := by decide +kernel
theorem d_Cor_isOutsideRoots_37 : decode b_Cor_isOutsideRoots 37 = .ok (.goto (-26), 3) := by decide +kernel
theorem d_Cor_isOutsideRoots_40 : decode b_Cor_isOutsideRoots 40 = .ok (.iconst 1, 1) := by decide +kernel
theorem d_Cor_isOutsideRoots_41 : decode b_Cor_isOutsideRoots 41 = .ok (.ireturn, 1) := by decide +kernel
theorem d_Cor_check_0 : decode b_Cor_check 0 = .ok (.aload_n 0, 1) := by decide +kernel
theorem d_Cor_check_1 : decode b_Cor_check 1 = .ok (.getfield 12, 3) := by decide +kernel
theorem d_Cor_check_4 : decode b_Cor_check 4 = .ok (.getfield 61, 3) := by decide +kernel
theorem d_Cor_check_7 : decode b_Cor_check 7 = .ok (.invokevirtual 199, 3) := by decide +kernel
theorem d_Cor_check_10 : decode b_Cor_check 10 = .ok (.ireturn, 1) := by decide +kernel
theorem d_Cor_word_0 : decode b_Cor_word 0 = .ok (.iload_n 1, 1) := by decide +kernel
theorem d_Cor_word_1 : decode b_Cor_word 1 = .ok (.invokestatic 50, 3) := by decide +kernel
theorem d_Cor_word_4 : decode b_Cor_word 4 = .ok (.ifCond .ne 13, 3) := by decide +kernel
theorem d_Cor_word_7 : decode b_Cor_word 7 = .ok (.new 54, 3) := by decide +kernel
theorem d_Cor_word_10 : decode b_Cor_word 10 = .ok (.dup, 1) := by decide +kernel
theorem d_Cor_word_11 : decode b_Cor_word 11 = .ok (.ldc 56, 2) := by decide +kernel
theorem d_Cor_word_13 : decode b_Cor_word 13 = .ok (.invokespecial 58, 3) := by decide +kernel
theorem d_Cor_word_16 : decode b_Cor_word 16 = .ok (.athrow, 1) := by decide +kernel
theorem d_Cor_word_17 : decode b_Cor_word 17 = .ok (.aload_n 0, 1) := by decide +kernel
theorem d_Cor_word_18 : decode b_Cor_word 18 = .ok (.getfield 12, 3) := by decide +kernel
theorem d_Cor_word_21 : decode b_Cor_word 21 = .ok (.getfield 61, 3) := by decide +kernel
theorem d_Cor_word_24 : decode b_Cor_word 24 = .ok (.iload_n 1, 1) := by decide +kernel
theorem d_Cor_word_25 : decode b_Cor_word 25 = .ok (.invokevirtual 65, 3) := by decide +kernel
theorem d_Cor_word_28 : decode b_Cor_word 28 = .ok (.istore_n 3, 1) := by decide +kernel
theorem d_Cor_word_29 : decode b_Cor_word 29 = .ok (.aload_n 0, 1) := by decide +kernel
theorem d_Cor_word_30 : decode b_Cor_word 30 = .ok (.getfield 12, 3) := by decide +kernel
theorem d_Cor_word_33 : decode b_Cor_word 33 = .ok (.getfield 61, 3) := by decide +kernel
theorem d_Cor_word_36 : decode b_Cor_word 36 = .ok (.iload_n 1, 1) := by decide +kernel
theorem d_Cor_word_37 : decode b_Cor_word 37 = .ok (.iload_n 2, 1) := by decide +kernel
theorem d_Cor_word_38 : decode b_Cor_word 38 = .ok (.invokevirtual 71, 3) := by decide +kernel
theorem d_Cor_word_41 : decode b_Cor_word 41 = .ok (.aload_n 0, 1) := by decide +kernel
theorem d_Cor_word_42 : decode b_Cor_word 42 = .ok (.getfield 12, 3) := by decide +kernel
theorem d_Cor_word_45 : decode b_Cor_word 45 = .ok (.getfield 75, 3) := by decide +kernel
theorem d_Cor_word_48 : decode b_Cor_word 48 = .ok (.iload_n 1, 1) := by decide +kernel
theorem d_Cor_word_49 : decode b_Cor_word 49 = .ok (.invokevirtual 79, 3) := by decide +kernel
theorem d_Cor_word_52 : decode b_Cor_word 52 = .ok (.iload_n 3, 1) := by decide +kernel
theorem d_Cor_word_53 : decode b_Cor_word 53 = .ok (.ireturn, 1) := by decide +kernel
theorem d_Cor_isWord_0 : decode b_Cor_isWord 0 = .ok (.iload_n 0, 1) := by decide +kernel
theorem d_Cor_isWord_1 : decode b_Cor_isWord 1 = .ok (.ifCond .lt 14, 3) := by decide +kernel
theorem d_Cor_isWord_4 : decode b_Cor_isWord 4 = .ok (.iload_n 0, 1) := by decide +kernel
theorem d_Cor_isWord_5 : decode b_Cor_isWord 5 = .ok (.sipush 4096, 3) := by decide +kernel
theorem d_Cor_isWord_8 : decode b_Cor_isWord 8 = .ok (.if_icmp .ge 7, 3) := by decide +kernel
theorem d_Cor_isWord_11 : decode b_Cor_isWord 11 = .ok (.iconst 1, 1) := by decide +kernel
theorem d_Cor_isWord_12 : decode b_Cor_isWord 12 = .ok (.goto 4, 3) := by decide +kernel
theorem d_Cor_isWord_15 : decode b_Cor_isWord 15 = .ok (.iconst 0, 1) := by decide +kernel
theorem d_Cor_isWord_16 : decode b_Cor_isWord 16 = .ok (.ireturn, 1) := by decide +kernel
theorem d_Cor_root_0 : decode b_Cor_root 0 = .ok (.iload_n 1, 1) := by decide +kernel
theorem d_Cor_root_1 : decode b_Cor_root 1 = .ok (.iconst 1, 1) := by decide +kernel
theorem d_Cor_root_2 : decode b_Cor_root 2 = .ok (.if_icmp .lt 9, 3) := by decide +kernel
theorem d_Cor_root_5 : decode b_Cor_root 5 = .ok (.iload_n 1, 1) := by decide +kernel
theorem d_Cor_root_6 : decode b_Cor_root 6 = .ok (.bipush 37, 2) := by decide +kernel
theorem d_Cor_root_8 : decode b_Cor_root 8 = .ok (.if_icmp .lt 13, 3) := by decide +kernel
theorem d_Cor_root_11 : decode b_Cor_root 11 = .ok (.new 54, 3) := by decide +kernel
theorem d_Cor_root_14 : decode b_Cor_root 14 = .ok (.dup, 1) := by decide +kernel
theorem d_Cor_root_15 : decode b_Cor_root 15 = .ok (.ldc 85, 2) := by decide +kernel
theorem d_Cor_root_17 : decode b_Cor_root 17 = .ok (.invokespecial 58, 3) := by decide +kernel
theorem d_Cor_root_20 : decode b_Cor_root 20 = .ok (.athrow, 1) := by decide +kernel
theorem d_Cor_root_21 : decode b_Cor_root 21 = .ok (.iload_n 2, 1) := by decide +kernel
theorem d_Cor_root_22 : decode b_Cor_root 22 = .ok (.iload_n 3, 1) := by decide +kernel
theorem d_Cor_root_23 : decode b_Cor_root 23 = .ok (.i2l, 1) := by decide +kernel
theorem d_Cor_root_24 : decode b_Cor_root 24 = .ok (.invokestatic 87, 3) := by decide +kernel
theorem d_Cor_root_27 : decode b_Cor_root 27 = .ok (.ifCond .eq 16, 3) := by decide +kernel
theorem d_Cor_root_30 : decode b_Cor_root 30 = .ok (.iload 4, 2) := by decide +kernel
theorem d_Cor_root_32 : decode b_Cor_root 32 = .ok (.ifCond .lt 11, 3) := by decide +kernel
theorem d_Cor_root_35 : decode b_Cor_root 35 = .ok (.iload 4, 2) := by decide +kernel
theorem d_Cor_root_37 : decode b_Cor_root 37 = .ok (.sipush 4095, 3) := by decide +kernel
theorem d_Cor_root_40 : decode b_Cor_root 40 = .ok (.if_icmp .le 13, 3) := by decide +kernel
theorem d_Cor_root_43 : decode b_Cor_root 43 = .ok (.new 91, 3) := by decide +kernel
theorem d_Cor_root_46 : decode b_Cor_root 46 = .ok (.dup, 1) := by decide +kernel
theorem d_Cor_root_47 : decode b_Cor_root 47 = .ok (.ldc 93, 2) := by decide +kernel
theorem d_Cor_root_49 : decode b_Cor_root 49 = .ok (.invokespecial 95, 3) := by decide +kernel
theorem d_Cor_root_52 : decode b_Cor_root 52 = .ok (.athrow, 1) := by decide +kernel
theorem d_Cor_root_53 : decode b_Cor_root 53 = .ok (.aload_n 0, 1) := by decide +kernel
theorem d_Cor_root_54 : decode b_Cor_root 54 = .ok (.getfield 96, 3) := by decide +kernel
theorem d_Cor_root_57 : decode b_Cor_root 57 = .ok (.bipush 8, 2) := by decide +kernel
theorem d_Cor_root_59 : decode b_Cor_root 59 = .ok (.if_icmp .lt 13, 3) := by decide +kernel
theorem d_Cor_root_62 : decode b_Cor_root 62 = .ok (.new 100, 3) := by decide +kernel
theorem d_Cor_root_65 : decode b_Cor_root 65 = .ok (.dup, 1) := by decide +kernel
theorem d_Cor_root_66 : decode b_Cor_root 66 = .ok (.ldc 102, 2) := by decide +kernel
theorem d_Cor_root_68 : decode b_Cor_root 68 = .ok (.invokespecial 104, 3) := by decide +kernel
theorem d_Cor_root_71 : decode b_Cor_root 71 = .ok (.athrow, 1) := by decide +kernel
theorem d_Cor_root_72 : decode b_Cor_root 72 = .ok (.iload_n 2, 1) := by decide +kernel
theorem d_Cor_root_73 : decode b_Cor_root 73 = .ok (.i2l, 1) := by decide +kernel
theorem d_Cor_root_74 : decode b_Cor_root 74 = .ok (.ldc2_w 105, 3) := by decide +kernel
theorem d_Cor_root_77 : decode b_Cor_root 77 = .ok (.land, 1) := by decide +kernel
theorem d_Cor_root_78 : decode b_Cor_root 78 = .ok (.lstore 5, 2) := by decide +kernel
theorem d_Cor_root_80 : decode b_Cor_root 80 = .ok (.aload_n 0, 1) := by decide +kernel
theorem d_Cor_root_81 : decode b_Cor_root 81 = .ok (.getfield 35, 3) := by decide +kernel
theorem d_Cor_root_84 : decode b_Cor_root 84 = .ok (.lload 5, 2) := by decide +kernel
theorem d_Cor_root_86 : decode b_Cor_root 86 = .ok (.lload 5, 2) := by decide +kernel
theorem d_Cor_root_88 : decode b_Cor_root 88 = .ok (.iload_n 3, 1) := by decide +kernel
theorem d_Cor_root_89 : decode b_Cor_root 89 = .ok (.i2l, 1) := by decide +kernel
theorem d_Cor_root_90 : decode b_Cor_root 90 = .ok (.ladd, 1) := by decide +kernel
theorem d_Cor_root_91 : decode b_Cor_root 91 = .ok (.invokevirtual 107, 3) := by decide +kernel
theorem d_Cor_root_94 : decode b_Cor_root 94 = .ok (.aload_n 0, 1) := by decide +kernel
theorem d_Cor_root_95 : decode b_Cor_root 95 = .ok (.getfield 12, 3) := by decide +kernel
theorem d_Cor_root_98 : decode b_Cor_root 98 = .ok (.getfield 111, 3) := by decide +kernel
theorem d_Cor_root_101 : decode b_Cor_root 101 = .ok (.iload_n 1, 1) := by decide +kernel
theorem d_Cor_root_102 : decode b_Cor_root 102 = .ok (.aaload, 1) := by decide +kernel
theorem d_Cor_root_103 : decode b_Cor_root 103 = .ok (.astore 7, 2) := by decide +kernel
theorem d_Cor_root_105 : decode b_Cor_root 105 = .ok (.aload 7, 2) := by decide +kernel
theorem d_Cor_root_107 : decode b_Cor_root 107 = .ok (.iconst 1, 1) := by decide +kernel
theorem d_Cor_root_108 : decode b_Cor_root 108 = .ok (.iload_n 2, 1) := by decide +kernel
theorem d_Cor_root_109 : decode b_Cor_root 109 = .ok (.iload 4, 2) := by decide +kernel
theorem d_Cor_root_111 : decode b_Cor_root 111 = .ok (.bipush 20, 2) := by decide +kernel
theorem d_Cor_root_113 : decode b_Cor_root 113 = .ok (.ishl, 1) := by decide +kernel
theorem d_Cor_root_114 : decode b_Cor_root 114 = .ok (.ldc 114, 2) := by decide +kernel
theorem d_Cor_root_116 : decode b_Cor_root 116 = .ok (.ior, 1) := by decide +kernel
theorem d_Cor_root_117 : decode b_Cor_root 117 = .ok (.aload_n 0, 1) := by decide +kernel
theorem d_Cor_root_118 : decode b_Cor_root 118 = .ok (.getfield 35, 3) := by decide +kernel
theorem d_Cor_root_121 : decode b_Cor_root 121 = .ok (.getfield 115, 3) := by decide +kernel
theorem d_Cor_root_124 : decode b_Cor_root 124 = .ok (.ior, 1) := by decide +kernel
theorem d_Cor_root_125 : decode b_Cor_root 125 = .ok (.invokevirtual 118, 3) := by decide +kernel
theorem d_Cor_root_128 : decode b_Cor_root 128 = .ok (.aload_n 0, 1) := by decide +kernel
theorem d_Cor_root_129 : decode b_Cor_root 129 = .ok (.getfield 46, 3) := by decide +kernel
theorem d_Cor_root_132 : decode b_Cor_root 132 = .ok (.aload_n 0, 1) := by decide +kernel
theorem d_Cor_root_133 : decode b_Cor_root 133 = .ok (.getfield 96, 3) := by decide +kernel
theorem d_Cor_root_136 : decode b_Cor_root 136 = .ok (.aaload, 1) := by decide +kernel
theorem d_Cor_root_137 : decode b_Cor_root 137 = .ok (.aload 7, 2) := by decide +kernel
theorem d_Cor_root_139 : decode b_Cor_root 139 = .ok (.invokevirtual 122, 3) := by decide +kernel
theorem d_Cor_root_142 : decode b_Cor_root 142 = .ok (.aload_n 0, 1) := by decide +kernel
theorem d_Cor_root_143 : decode b_Cor_root 143 = .ok (.dup, 1) := by decide +kernel
theorem d_Cor_root_144 : decode b_Cor_root 144 = .ok (.getfield 96, 3) := by decide +kernel
theorem d_Cor_root_147 : decode b_Cor_root 147 = .ok (.iconst 1, 1) := by decide +kernel
theorem d_Cor_root_148 : decode b_Cor_root 148 = .ok (.iadd, 1) := by decide +kernel
theorem d_Cor_root_149 : decode b_Cor_root 149 = .ok (.putfield 96, 3) := by decide +kernel
theorem d_Cor_root_152 : decode b_Cor_root 152 = .ok (.aload 7, 2) := by decide +kernel
theorem d_Cor_root_154 : decode b_Cor_root 154 = .ok (.getfield 126, 3) := by decide +kernel
theorem d_Cor_root_157 : decode b_Cor_root 157 = .ok (.l2i, 1) := by decide +kernel
theorem d_Cor_root_158 : decode b_Cor_root 158 = .ok (.ireturn, 1) := by decide +kernel
theorem d_Cor_fitsSpace_0 : decode b_Cor_fitsSpace 0 = .ok (.lload_n 1, 1) := by decide +kernel
theorem d_Cor_fitsSpace_1 : decode b_Cor_fitsSpace 1 = .ok (.lconst 0, 1) := by decide +kernel
theorem d_Cor_fitsSpace_2 : decode b_Cor_fitsSpace 2 = .ok (.lcmp, 1) := by decide +kernel
theorem d_Cor_fitsSpace_3 : decode b_Cor_fitsSpace 3 = .ok (.ifCond .lt 22, 3) := by decide +kernel
theorem d_Cor_fitsSpace_6 : decode b_Cor_fitsSpace 6 = .ok (.lload_n 1, 1) := by decide +kernel
theorem d_Cor_fitsSpace_7 : decode b_Cor_fitsSpace 7 = .ok (.ldc2_w 202, 3) := by decide +kernel
theorem d_Cor_fitsSpace_10 : decode b_Cor_fitsSpace 10 = .ok (.iload_n 0, 1) := by decide +kernel
theorem d_Cor_fitsSpace_11 : decode b_Cor_fitsSpace 11 = .ok (.i2l, 1) := by decide +kernel
theorem d_Cor_fitsSpace_12 : decode b_Cor_fitsSpace 12 = .ok (.ldc2_w 105, 3) := by decide +kernel
theorem d_Cor_fitsSpace_15 : decode b_Cor_fitsSpace 15 = .ok (.land, 1) := by decide +kernel
theorem d_Cor_fitsSpace_16 : decode b_Cor_fitsSpace 16 = .ok (.lsub, 1) := by decide +kernel
theorem d_Cor_fitsSpace_17 : decode b_Cor_fitsSpace 17 = .ok (.lcmp, 1) := by decide +kernel
theorem d_Cor_fitsSpace_18 : decode b_Cor_fitsSpace 18 = .ok (.ifCond .gt 7, 3) := by decide +kernel
theorem d_Cor_fitsSpace_21 : decode b_Cor_fitsSpace 21 = .ok (.iconst 1, 1) := by decide +kernel
theorem d_Cor_fitsSpace_22 : decode b_Cor_fitsSpace 22 = .ok (.goto 4, 3) := by decide +kernel
theorem d_Cor_fitsSpace_25 : decode b_Cor_fitsSpace 25 = .ok (.iconst 0, 1) := by decide +kernel
theorem d_Cor_fitsSpace_26 : decode b_Cor_fitsSpace 26 = .ok (.ireturn, 1) := by decide +kernel
theorem d_Cor_put_0 : decode b_Cor_put 0 = .ok (.iload_n 1, 1) := by decide +kernel
theorem d_Cor_put_1 : decode b_Cor_put 1 = .ok (.iconst 1, 1) := by decide +kernel
theorem d_Cor_put_2 : decode b_Cor_put 2 = .ok (.if_icmp .lt 9, 3) := by decide +kernel
theorem d_Cor_put_5 : decode b_Cor_put 5 = .ok (.iload_n 1, 1) := by decide +kernel
theorem d_Cor_put_6 : decode b_Cor_put 6 = .ok (.bipush 32, 2) := by decide +kernel
theorem d_Cor_put_8 : decode b_Cor_put 8 = .ok (.if_icmp .lt 13, 3) := by decide +kernel
theorem d_Cor_put_11 : decode b_Cor_put 11 = .ok (.new 54, 3) := by decide +kernel
theorem d_Cor_put_14 : decode b_Cor_put 14 = .ok (.dup, 1) := by decide +kernel
theorem d_Cor_put_15 : decode b_Cor_put 15 = .ok (.ldc 85, 2) := by decide +kernel
theorem d_Cor_put_17 : decode b_Cor_put 17 = .ok (.invokespecial 58, 3) := by decide +kernel
theorem d_Cor_put_20 : decode b_Cor_put 20 = .ok (.athrow, 1) := by decide +kernel
theorem d_Cor_put_21 : decode b_Cor_put 21 = .ok (.aload_n 0, 1) := by decide +kernel
theorem d_Cor_put_22 : decode b_Cor_put 22 = .ok (.getfield 12, 3) := by decide +kernel
theorem d_Cor_put_25 : decode b_Cor_put 25 = .ok (.getfield 111, 3) := by decide +kernel
theorem d_Cor_put_28 : decode b_Cor_put 28 = .ok (.iload_n 1, 1) := by decide +kernel
theorem d_Cor_put_29 : decode b_Cor_put 29 = .ok (.aaload, 1) := by decide +kernel
theorem d_Cor_put_30 : decode b_Cor_put 30 = .ok (.iconst 0, 1) := by decide +kernel
theorem d_Cor_put_31 : decode b_Cor_put 31 = .ok (.iload_n 2, 1) := by decide +kernel
theorem d_Cor_put_32 : decode b_Cor_put 32 = .ok (.iload_n 3, 1) := by decide +kernel
theorem d_Cor_put_33 : decode b_Cor_put 33 = .ok (.ldc 130, 2) := by decide +kernel
theorem d_Cor_put_35 : decode b_Cor_put 35 = .ok (.ixor, 1) := by decide +kernel
theorem d_Cor_put_36 : decode b_Cor_put 36 = .ok (.invokevirtual 118, 3) := by decide +kernel
theorem d_Cor_put_39 : decode b_Cor_put 39 = .ok (.return_, 1) := by decide +kernel
theorem d_Cor_run_0 : decode b_Cor_run 0 = .ok (.iload_n 1, 1) := by decide +kernel
theorem d_Cor_run_1 : decode b_Cor_run 1 = .ok (.iconst 1, 1) := by decide +kernel
theorem d_Cor_run_2 : decode b_Cor_run 2 = .ok (.if_icmp .lt 10, 3) := by decide +kernel
theorem d_Cor_run_5 : decode b_Cor_run 5 = .ok (.iload_n 1, 1) := by decide +kernel
theorem d_Cor_run_6 : decode b_Cor_run 6 = .ok (.sipush 10000, 3) := by decide +kernel
theorem d_Cor_run_9 : decode b_Cor_run 9 = .ok (.if_icmp .le 13, 3) := by decide +kernel
theorem d_Cor_run_12 : decode b_Cor_run 12 = .ok (.new 91, 3) := by decide +kernel
theorem d_Cor_run_15 : decode b_Cor_run 15 = .ok (.dup, 1) := by decide +kernel
theorem d_Cor_run_16 : decode b_Cor_run 16 = .ok (.ldc 131, 2) := by decide +kernel
theorem d_Cor_run_18 : decode b_Cor_run 18 = .ok (.invokespecial 95, 3) := by decide +kernel
theorem d_Cor_run_21 : decode b_Cor_run 21 = .ok (.athrow, 1) := by decide +kernel
theorem d_Cor_run_22 : decode b_Cor_run 22 = .ok (.aload_n 0, 1) := by decide +kernel
theorem d_Cor_run_23 : decode b_Cor_run 23 = .ok (.getfield 133, 3) := by decide +kernel
theorem d_Cor_run_26 : decode b_Cor_run 26 = .ok (.ifCond .eq 13, 3) := by decide +kernel
theorem d_Cor_run_29 : decode b_Cor_run 29 = .ok (.new 100, 3) := by decide +kernel
theorem d_Cor_run_32 : decode b_Cor_run 32 = .ok (.dup, 1) := by decide +kernel
theorem d_Cor_run_33 : decode b_Cor_run 33 = .ok (.ldc 137, 2) := by decide +kernel
theorem d_Cor_run_35 : decode b_Cor_run 35 = .ok (.invokespecial 104, 3) := by decide +kernel
theorem d_Cor_run_38 : decode b_Cor_run 38 = .ok (.athrow, 1) := by decide +kernel
theorem d_Cor_run_39 : decode b_Cor_run 39 = .ok (.iconst 0, 1) := by decide +kernel
theorem d_Cor_run_40 : decode b_Cor_run 40 = .ok (.istore_n 2, 1) := by decide +kernel
theorem d_Cor_run_41 : decode b_Cor_run 41 = .ok (.iload_n 2, 1) := by decide +kernel
theorem d_Cor_run_42 : decode b_Cor_run 42 = .ok (.iload_n 1, 1) := by decide +kernel
theorem d_Cor_run_43 : decode b_Cor_run 43 = .ok (.if_icmp .ge 20, 3) := by decide +kernel
theorem d_Cor_run_46 : decode b_Cor_run 46 = .ok (.aload_n 0, 1) := by decide +kernel
theorem d_Cor_run_47 : decode b_Cor_run 47 = .ok (.getfield 133, 3) := by decide +kernel
theorem d_Cor_run_50 : decode b_Cor_run 50 = .ok (.ifCond .ne 13, 3) := by decide +kernel
theorem d_Cor_run_53 : decode b_Cor_run 53 = .ok (.aload_n 0, 1) := by decide +kernel
theorem d_Cor_run_54 : decode b_Cor_run 54 = .ok (.invokevirtual 139, 3) := by decide +kernel
theorem d_Cor_run_57 : decode b_Cor_run 57 = .ok (.iinc 2 1, 3) := by decide +kernel
theorem d_Cor_run_60 : decode b_Cor_run 60 = .ok (.goto (-19), 3) := by decide +kernel
theorem d_Cor_run_63 : decode b_Cor_run 63 = .ok (.iload_n 2, 1) := by decide +kernel
theorem d_Cor_run_64 : decode b_Cor_run 64 = .ok (.ireturn, 1) := by decide +kernel
theorem d_Cor_step_0 : decode b_Cor_step 0 = .ok (.aload_n 0, 1) := by decide +kernel
theorem d_Cor_step_1 : decode b_Cor_step 1 = .ok (.dup, 1) := by decide +kernel
theorem d_Cor_step_2 : decode b_Cor_step 2 = .ok (.getfield 175, 3) := by decide +kernel
theorem d_Cor_step_5 : decode b_Cor_step 5 = .ok (.iconst 1, 1) := by decide +kernel
theorem d_Cor_step_6 : decode b_Cor_step 6 = .ok (.iadd, 1) := by decide +kernel
theorem d_Cor_step_7 : decode b_Cor_step 7 = .ok (.putfield 175, 3) := by decide +kernel
theorem d_Cor_step_10 : decode b_Cor_step 10 = .ok (.aload_n 0, 1) := by decide +kernel
theorem d_Cor_step_11 : decode b_Cor_step 11 = .ok (.getfield 12, 3) := by decide +kernel
theorem d_Cor_step_14 : decode b_Cor_step 14 = .ok (.invokevirtual 207, 3) := by decide +kernel
theorem d_Cor_step_17 : decode b_Cor_step 17 = .ok (.istore_n 1, 1) := by decide +kernel
theorem d_Cor_step_18 : decode b_Cor_step 18 = .ok (.iload_n 1, 1) := by decide +kernel
theorem d_Cor_step_19 : decode b_Cor_step 19 = .ok (.iconst (-1), 1) := by decide +kernel
theorem d_Cor_step_20 : decode b_Cor_step 20 = .ok (.if_icmp .ne 55, 3) := by decide +kernel
theorem d_Cor_step_23 : decode b_Cor_step 23 = .ok (.aload_n 0, 1) := by decide +kernel
theorem d_Cor_step_24 : decode b_Cor_step 24 = .ok (.getfield 12, 3) := by decide +kernel
theorem d_Cor_step_27 : decode b_Cor_step 27 = .ok (.getfield 75, 3) := by decide +kernel
theorem d_Cor_step_30 : decode b_Cor_step 30 = .ok (.aload_n 0, 1) := by decide +kernel
theorem d_Cor_step_31 : decode b_Cor_step 31 = .ok (.getfield 12, 3) := by decide +kernel
theorem d_Cor_step_34 : decode b_Cor_step 34 = .ok (.getfield 210, 3) := by decide +kernel
theorem d_Cor_step_37 : decode b_Cor_step 37 = .ok (.getfield 145, 3) := by decide +kernel
theorem d_Cor_step_40 : decode b_Cor_step 40 = .ok (.iconst 2, 1) := by decide +kernel
theorem d_Cor_step_41 : decode b_Cor_step 41 = .ok (.iushr, 1) := by decide +kernel
theorem d_Cor_step_42 : decode b_Cor_step 42 = .ok (.invokevirtual 213, 3) := by decide +kernel
theorem d_Cor_step_45 : decode b_Cor_step 45 = .ok (.astore_n 2, 1) := by decide +kernel
theorem d_Cor_step_46 : decode b_Cor_step 46 = .ok (.aload_n 2, 1) := by decide +kernel
theorem d_Cor_step_47 : decode b_Cor_step 47 = .ok (.getfield 217, 3) := by decide +kernel
theorem d_Cor_step_50 : decode b_Cor_step 50 = .ok (.bipush 91, 2) := by decide +kernel
theorem d_Cor_step_52 : decode b_Cor_step 52 = .ok (.if_icmp .ne 14, 3) := by decide +kernel
theorem d_Cor_step_55 : decode b_Cor_step 55 = .ok (.aload_n 0, 1) := by decide +kernel
theorem d_Cor_step_56 : decode b_Cor_step 56 = .ok (.getfield 28, 3) := by decide +kernel
theorem d_Cor_step_59 : decode b_Cor_step 59 = .ok (.aload_n 2, 1) := by decide +kernel
theorem d_Cor_step_60 : decode b_Cor_step 60 = .ok (.invokevirtual 222, 3) := by decide +kernel
theorem d_Cor_step_63 : decode b_Cor_step 63 = .ok (.goto 11, 3) := by decide +kernel
theorem d_Cor_step_66 : decode b_Cor_step 66 = .ok (.aload_n 0, 1) := by decide +kernel
theorem d_Cor_step_67 : decode b_Cor_step 67 = .ok (.getfield 21, 3) := by decide +kernel
theorem d_Cor_step_70 : decode b_Cor_step 70 = .ok (.aload_n 2, 1) := by decide +kernel
theorem d_Cor_step_71 : decode b_Cor_step 71 = .ok (.invokevirtual 226, 3) := by decide +kernel
theorem d_Cor_step_74 : decode b_Cor_step 74 = .ok (.istore_n 1, 1) := by decide +kernel
theorem d_Cor_step_75 : decode b_Cor_step 75 = .ok (.iload_n 1, 1) := by decide +kernel
theorem d_Cor_step_76 : decode b_Cor_step 76 = .ok (.ifCond .lt 11, 3) := by decide +kernel
theorem d_Cor_step_79 : decode b_Cor_step 79 = .ok (.aload_n 0, 1) := by decide +kernel
theorem d_Cor_step_80 : decode b_Cor_step 80 = .ok (.iload_n 1, 1) := by decide +kernel
theorem d_Cor_step_81 : decode b_Cor_step 81 = .ok (.invokevirtual 227, 3) := by decide +kernel
theorem d_Cor_step_84 : decode b_Cor_step 84 = .ok (.goto 31, 3) := by decide +kernel
theorem d_Cor_step_87 : decode b_Cor_step 87 = .ok (.iload_n 1, 1) := by decide +kernel
theorem d_Cor_step_88 : decode b_Cor_step 88 = .ok (.bipush (-2), 2) := by decide +kernel
theorem d_Cor_step_90 : decode b_Cor_step 90 = .ok (.if_icmp .eq 25, 3) := by decide +kernel
theorem d_Cor_step_93 : decode b_Cor_step 93 = .ok (.aload_n 0, 1) := by decide +kernel
theorem d_Cor_step_94 : decode b_Cor_step 94 = .ok (.getfield 12, 3) := by decide +kernel
theorem d_Cor_step_97 : decode b_Cor_step 97 = .ok (.getfield 210, 3) := by decide +kernel
theorem d_Cor_step_100 : decode b_Cor_step 100 = .ok (.aload_n 0, 1) := by decide +kernel
theorem d_Cor_step_101 : decode b_Cor_step 101 = .ok (.getfield 12, 3) := by decide +kernel
theorem d_Cor_step_104 : decode b_Cor_step 104 = .ok (.getfield 210, 3) := by decide +kernel
theorem d_Cor_step_107 : decode b_Cor_step 107 = .ok (.getfield 145, 3) := by decide +kernel
theorem d_Cor_step_110 : decode b_Cor_step 110 = .ok (.iconst 4, 1) := by decide +kernel
theorem d_Cor_step_111 : decode b_Cor_step 111 = .ok (.iadd, 1) := by decide +kernel
theorem d_Cor_step_112 : decode b_Cor_step 112 = .ok (.invokevirtual 230, 3) := by decide +kernel
theorem d_Cor_step_115 : decode b_Cor_step 115 = .ok (.return_, 1) := by decide +kernel
theorem d_Cor_takeTrap_0 : decode b_Cor_takeTrap 0 = .ok (.aload_n 0, 1) := by decide +kernel
theorem d_Cor_takeTrap_1 : decode b_Cor_takeTrap 1 = .ok (.dup, 1) := by decide +kernel
theorem d_Cor_takeTrap_2 : decode b_Cor_takeTrap 2 = .ok (.getfield 178, 3) := by decide +kernel
theorem d_Cor_takeTrap_5 : decode b_Cor_takeTrap 5 = .ok (.iconst 1, 1) := by decide +kernel
theorem d_Cor_takeTrap_6 : decode b_Cor_takeTrap 6 = .ok (.iadd, 1) := by decide +kernel
theorem d_Cor_takeTrap_7 : decode b_Cor_takeTrap 7 = .ok (.putfield 178, 3) := by decide +kernel
theorem d_Cor_takeTrap_10 : decode b_Cor_takeTrap 10 = .ok (.aload_n 0, 1) := by decide +kernel
theorem d_Cor_takeTrap_11 : decode b_Cor_takeTrap 11 = .ok (.getfield 12, 3) := by decide +kernel
theorem d_Cor_takeTrap_14 : decode b_Cor_takeTrap 14 = .ok (.iload_n 1, 1) := by decide +kernel
theorem d_Cor_takeTrap_15 : decode b_Cor_takeTrap 15 = .ok (.putfield 169, 3) := by decide +kernel
theorem d_Cor_takeTrap_18 : decode b_Cor_takeTrap 18 = .ok (.aload_n 0, 1) := by decide +kernel
theorem d_Cor_takeTrap_19 : decode b_Cor_takeTrap 19 = .ok (.getfield 12, 3) := by decide +kernel
theorem d_Cor_takeTrap_22 : decode b_Cor_takeTrap 22 = .ok (.aload_n 0, 1) := by decide +kernel
theorem d_Cor_takeTrap_23 : decode b_Cor_takeTrap 23 = .ok (.getfield 12, 3) := by decide +kernel
theorem d_Cor_takeTrap_26 : decode b_Cor_takeTrap 26 = .ok (.getfield 233, 3) := by decide +kernel
theorem d_Cor_takeTrap_29 : decode b_Cor_takeTrap 29 = .ok (.putfield 172, 3) := by decide +kernel
theorem d_Cor_takeTrap_32 : decode b_Cor_takeTrap 32 = .ok (.aload_n 0, 1) := by decide +kernel
theorem d_Cor_takeTrap_33 : decode b_Cor_takeTrap 33 = .ok (.getfield 12, 3) := by decide +kernel
theorem d_Cor_takeTrap_36 : decode b_Cor_takeTrap 36 = .ok (.getfield 111, 3) := by decide +kernel
theorem d_Cor_takeTrap_39 : decode b_Cor_takeTrap 39 = .ok (.bipush 36, 2) := by decide +kernel
theorem d_Cor_takeTrap_41 : decode b_Cor_takeTrap 41 = .ok (.aaload, 1) := by decide +kernel
theorem d_Cor_takeTrap_42 : decode b_Cor_takeTrap 42 = .ok (.aload_n 0, 1) := by decide +kernel
theorem d_Cor_takeTrap_43 : decode b_Cor_takeTrap 43 = .ok (.getfield 12, 3) := by decide +kernel
theorem d_Cor_takeTrap_46 : decode b_Cor_takeTrap 46 = .ok (.getfield 210, 3) := by decide +kernel
theorem d_Cor_takeTrap_49 : decode b_Cor_takeTrap 49 = .ok (.invokevirtual 122, 3) := by decide +kernel
theorem d_Cor_takeTrap_52 : decode b_Cor_takeTrap 52 = .ok (.aload_n 0, 1) := by decide +kernel
theorem d_Cor_takeTrap_53 : decode b_Cor_takeTrap 53 = .ok (.getfield 12, 3) := by decide +kernel
theorem d_Cor_takeTrap_56 : decode b_Cor_takeTrap 56 = .ok (.getfield 210, 3) := by decide +kernel
theorem d_Cor_takeTrap_59 : decode b_Cor_takeTrap 59 = .ok (.aload_n 0, 1) := by decide +kernel
theorem d_Cor_takeTrap_60 : decode b_Cor_takeTrap 60 = .ok (.getfield 12, 3) := by decide +kernel
theorem d_Cor_takeTrap_63 : decode b_Cor_takeTrap 63 = .ok (.getfield 111, 3) := by decide +kernel
theorem d_Cor_takeTrap_66 : decode b_Cor_takeTrap 66 = .ok (.bipush 33, 2) := by decide +kernel
theorem d_Cor_takeTrap_68 : decode b_Cor_takeTrap 68 = .ok (.aaload, 1) := by decide +kernel
theorem d_Cor_takeTrap_69 : decode b_Cor_takeTrap 69 = .ok (.invokevirtual 122, 3) := by decide +kernel
theorem d_Cor_takeTrap_72 : decode b_Cor_takeTrap 72 = .ok (.aload_n 0, 1) := by decide +kernel
theorem d_Cor_takeTrap_73 : decode b_Cor_takeTrap 73 = .ok (.aload_n 0, 1) := by decide +kernel
theorem d_Cor_takeTrap_74 : decode b_Cor_takeTrap 74 = .ok (.getfield 12, 3) := by decide +kernel
theorem d_Cor_takeTrap_77 : decode b_Cor_takeTrap 77 = .ok (.invokevirtual 207, 3) := by decide +kernel
theorem d_Cor_takeTrap_80 : decode b_Cor_takeTrap 80 = .ok (.iconst (-1), 1) := by decide +kernel
theorem d_Cor_takeTrap_81 : decode b_Cor_takeTrap 81 = .ok (.if_icmp .eq 7, 3) := by decide +kernel
theorem d_Cor_takeTrap_84 : decode b_Cor_takeTrap 84 = .ok (.iconst 1, 1) := by decide +kernel
theorem d_Cor_takeTrap_85 : decode b_Cor_takeTrap 85 = .ok (.goto 4, 3) := by decide +kernel
theorem d_Cor_takeTrap_88 : decode b_Cor_takeTrap 88 = .ok (.iconst 0, 1) := by decide +kernel
theorem d_Cor_takeTrap_89 : decode b_Cor_takeTrap 89 = .ok (.putfield 133, 3) := by decide +kernel
theorem d_Cor_takeTrap_92 : decode b_Cor_takeTrap 92 = .ok (.return_, 1) := by decide +kernel
theorem d_Cor_told_0 : decode b_Cor_told 0 = .ok (.iload_n 1, 1) := by decide +kernel
theorem d_Cor_told_1 : decode b_Cor_told 1 = .ok (.ifCond .lt 9, 3) := by decide +kernel
theorem d_Cor_told_4 : decode b_Cor_told 4 = .ok (.iload_n 1, 1) := by decide +kernel
theorem d_Cor_told_5 : decode b_Cor_told 5 = .ok (.bipush 37, 2) := by decide +kernel
theorem d_Cor_told_7 : decode b_Cor_told 7 = .ok (.if_icmp .lt 13, 3) := by decide +kernel
theorem d_Cor_told_10 : decode b_Cor_told 10 = .ok (.new 54, 3) := by decide +kernel
theorem d_Cor_told_13 : decode b_Cor_told 13 = .ok (.dup, 1) := by decide +kernel
theorem d_Cor_told_14 : decode b_Cor_told 14 = .ok (.ldc 85, 2) := by decide +kernel
theorem d_Cor_told_16 : decode b_Cor_told 16 = .ok (.invokespecial 58, 3) := by decide +kernel
theorem d_Cor_told_19 : decode b_Cor_told 19 = .ok (.athrow, 1) := by decide +kernel
theorem d_Cor_told_20 : decode b_Cor_told 20 = .ok (.aload_n 0, 1) := by decide +kernel
theorem d_Cor_told_21 : decode b_Cor_told 21 = .ok (.getfield 12, 3) := by decide +kernel
theorem d_Cor_told_24 : decode b_Cor_told 24 = .ok (.getfield 111, 3) := by decide +kernel
theorem d_Cor_told_27 : decode b_Cor_told 27 = .ok (.iload_n 1, 1) := by decide +kernel
theorem d_Cor_told_28 : decode b_Cor_told 28 = .ok (.aaload, 1) := by decide +kernel
theorem d_Cor_told_29 : decode b_Cor_told 29 = .ok (.astore_n 3, 1) := by decide +kernel
theorem d_Cor_told_30 : decode b_Cor_told 30 = .ok (.iload_n 2, 1) := by decide +kernel
theorem d_Cor_told_31 : decode b_Cor_told 31 = .ok (.tableswitch 85 0 6 #[41, 54, 59, 64, 70, 75, 80], 41) := by decide +kernel
theorem d_Cor_told_72 : decode b_Cor_told 72 = .ok (.aload_n 3, 1) := by decide +kernel
theorem d_Cor_told_73 : decode b_Cor_told 73 = .ok (.getfield 142, 3) := by decide +kernel
theorem d_Cor_told_76 : decode b_Cor_told 76 = .ok (.ifCond .eq 7, 3) := by decide +kernel
theorem d_Cor_told_79 : decode b_Cor_told 79 = .ok (.iconst 1, 1) := by decide +kernel
theorem d_Cor_told_80 : decode b_Cor_told 80 = .ok (.goto 4, 3) := by decide +kernel
theorem d_Cor_told_83 : decode b_Cor_told 83 = .ok (.iconst 0, 1) := by decide +kernel
theorem d_Cor_told_84 : decode b_Cor_told 84 = .ok (.ireturn, 1) := by decide +kernel
theorem d_Cor_told_85 : decode b_Cor_told 85 = .ok (.aload_n 3, 1) := by decide +kernel
theorem d_Cor_told_86 : decode b_Cor_told 86 = .ok (.getfield 145, 3) := by decide +kernel
theorem d_Cor_told_89 : decode b_Cor_told 89 = .ok (.ireturn, 1) := by decide +kernel
theorem d_Cor_told_90 : decode b_Cor_told 90 = .ok (.aload_n 3, 1) := by decide +kernel
theorem d_Cor_told_91 : decode b_Cor_told 91 = .ok (.invokevirtual 148, 3) := by decide +kernel
theorem d_Cor_told_94 : decode b_Cor_told 94 = .ok (.ireturn, 1) := by decide +kernel
theorem d_Cor_told_95 : decode b_Cor_told 95 = .ok (.aload_n 3, 1) := by decide +kernel
theorem d_Cor_told_96 : decode b_Cor_told 96 = .ok (.getfield 126, 3) := by decide +kernel
theorem d_Cor_told_99 : decode b_Cor_told 99 = .ok (.l2i, 1) := by decide +kernel
theorem d_Cor_told_100 : decode b_Cor_told 100 = .ok (.ireturn, 1) := by decide +kernel
theorem d_Cor_told_101 : decode b_Cor_told 101 = .ok (.aload_n 3, 1) := by decide +kernel
theorem d_Cor_told_102 : decode b_Cor_told 102 = .ok (.invokevirtual 152, 3) := by decide +kernel
theorem d_Cor_told_105 : decode b_Cor_told 105 = .ok (.ireturn, 1) := by decide +kernel
theorem d_Cor_told_106 : decode b_Cor_told 106 = .ok (.aload_n 3, 1) := by decide +kernel
theorem d_Cor_told_107 : decode b_Cor_told 107 = .ok (.invokevirtual 155, 3) := by decide +kernel
theorem d_Cor_told_110 : decode b_Cor_told 110 = .ok (.ireturn, 1) := by decide +kernel
theorem d_Cor_told_111 : decode b_Cor_told 111 = .ok (.aload_n 3, 1) := by decide +kernel
theorem d_Cor_told_112 : decode b_Cor_told 112 = .ok (.invokevirtual 158, 3) := by decide +kernel
theorem d_Cor_told_115 : decode b_Cor_told 115 = .ok (.ireturn, 1) := by decide +kernel
theorem d_Cor_told_116 : decode b_Cor_told 116 = .ok (.new 91, 3) := by decide +kernel
theorem d_Cor_told_119 : decode b_Cor_told 119 = .ok (.dup, 1) := by decide +kernel
theorem d_Cor_told_120 : decode b_Cor_told 120 = .ok (.ldc 161, 2) := by decide +kernel
theorem d_Cor_told_122 : decode b_Cor_told 122 = .ok (.invokespecial 95, 3) := by decide +kernel
theorem d_Cor_told_125 : decode b_Cor_told 125 = .ok (.athrow, 1) := by decide +kernel
theorem d_Cor_memory_0 : decode b_Cor_memory 0 = .ok (.iload_n 1, 1) := by decide +kernel
theorem d_Cor_memory_1 : decode b_Cor_memory 1 = .ok (.invokestatic 50, 3) := by decide +kernel
theorem d_Cor_memory_4 : decode b_Cor_memory 4 = .ok (.ifCond .ne 13, 3) := by decide +kernel
theorem d_Cor_memory_7 : decode b_Cor_memory 7 = .ok (.new 54, 3) := by decide +kernel
theorem d_Cor_memory_10 : decode b_Cor_memory 10 = .ok (.dup, 1) := by decide +kernel
theorem d_Cor_memory_11 : decode b_Cor_memory 11 = .ok (.ldc 56, 2) := by decide +kernel
theorem d_Cor_memory_13 : decode b_Cor_memory 13 = .ok (.invokespecial 58, 3) := by decide +kernel
theorem d_Cor_memory_16 : decode b_Cor_memory 16 = .ok (.athrow, 1) := by decide +kernel
theorem d_Cor_memory_17 : decode b_Cor_memory 17 = .ok (.aload_n 0, 1) := by decide +kernel
theorem d_Cor_memory_18 : decode b_Cor_memory 18 = .ok (.getfield 12, 3) := by decide +kernel
theorem d_Cor_memory_21 : decode b_Cor_memory 21 = .ok (.getfield 61, 3) := by decide +kernel
theorem d_Cor_memory_24 : decode b_Cor_memory 24 = .ok (.iload_n 1, 1) := by decide +kernel
theorem d_Cor_memory_25 : decode b_Cor_memory 25 = .ok (.invokevirtual 163, 3) := by decide +kernel
theorem d_Cor_memory_28 : decode b_Cor_memory 28 = .ok (.ireturn, 1) := by decide +kernel
theorem d_Cor_tag_0 : decode b_Cor_tag 0 = .ok (.iload_n 1, 1) := by decide +kernel
theorem d_Cor_tag_1 : decode b_Cor_tag 1 = .ok (.invokestatic 50, 3) := by decide +kernel
theorem d_Cor_tag_4 : decode b_Cor_tag 4 = .ok (.ifCond .ne 13, 3) := by decide +kernel
theorem d_Cor_tag_7 : decode b_Cor_tag 7 = .ok (.new 54, 3) := by decide +kernel
theorem d_Cor_tag_10 : decode b_Cor_tag 10 = .ok (.dup, 1) := by decide +kernel
theorem d_Cor_tag_11 : decode b_Cor_tag 11 = .ok (.ldc 56, 2) := by decide +kernel
theorem d_Cor_tag_13 : decode b_Cor_tag 13 = .ok (.invokespecial 58, 3) := by decide +kernel
theorem d_Cor_tag_16 : decode b_Cor_tag 16 = .ok (.athrow, 1) := by decide +kernel
theorem d_Cor_tag_17 : decode b_Cor_tag 17 = .ok (.aload_n 0, 1) := by decide +kernel
theorem d_Cor_tag_18 : decode b_Cor_tag 18 = .ok (.getfield 12, 3) := by decide +kernel
theorem d_Cor_tag_21 : decode b_Cor_tag 21 = .ok (.getfield 61, 3) := by decide +kernel
theorem d_Cor_tag_24 : decode b_Cor_tag 24 = .ok (.iload_n 1, 1) := by decide +kernel
theorem d_Cor_tag_25 : decode b_Cor_tag 25 = .ok (.invokevirtual 166, 3) := by decide +kernel
theorem d_Cor_tag_28 : decode b_Cor_tag 28 = .ok (.ireturn, 1) := by decide +kernel
theorem d_Cor_count_0 : decode b_Cor_count 0 = .ok (.iload_n 1, 1) := by decide +kernel
theorem d_Cor_count_1 : decode b_Cor_count 1 = .ok (.tableswitch 98 0 6 #[43, 56, 64, 72, 77, 82, 87], 43) := by decide +kernel
theorem d_Cor_count_44 : decode b_Cor_count 44 = .ok (.aload_n 0, 1) := by decide +kernel
theorem d_Cor_count_45 : decode b_Cor_count 45 = .ok (.getfield 133, 3) := by decide +kernel
theorem d_Cor_count_48 : decode b_Cor_count 48 = .ok (.ifCond .eq 7, 3) := by decide +kernel
theorem d_Cor_count_51 : decode b_Cor_count 51 = .ok (.iconst 1, 1) := by decide +kernel
theorem d_Cor_count_52 : decode b_Cor_count 52 = .ok (.goto 4, 3) := by decide +kernel
theorem d_Cor_count_55 : decode b_Cor_count 55 = .ok (.iconst 0, 1) := by decide +kernel
theorem d_Cor_count_56 : decode b_Cor_count 56 = .ok (.ireturn, 1) := by decide +kernel
theorem d_Cor_count_57 : decode b_Cor_count 57 = .ok (.aload_n 0, 1) := by decide +kernel
theorem d_Cor_count_58 : decode b_Cor_count 58 = .ok (.getfield 12, 3) := by decide +kernel
theorem d_Cor_count_61 : decode b_Cor_count 61 = .ok (.getfield 169, 3) := by decide +kernel
theorem d_Cor_count_64 : decode b_Cor_count 64 = .ok (.ireturn, 1) := by decide +kernel
theorem d_Cor_count_65 : decode b_Cor_count 65 = .ok (.aload_n 0, 1) := by decide +kernel
theorem d_Cor_count_66 : decode b_Cor_count 66 = .ok (.getfield 12, 3) := by decide +kernel
theorem d_Cor_count_69 : decode b_Cor_count 69 = .ok (.getfield 172, 3) := by decide +kernel
theorem d_Cor_count_72 : decode b_Cor_count 72 = .ok (.ireturn, 1) := by decide +kernel
theorem d_Cor_count_73 : decode b_Cor_count 73 = .ok (.aload_n 0, 1) := by decide +kernel
theorem d_Cor_count_74 : decode b_Cor_count 74 = .ok (.getfield 175, 3) := by decide +kernel
theorem d_Cor_count_77 : decode b_Cor_count 77 = .ok (.ireturn, 1) := by decide +kernel
theorem d_Cor_count_78 : decode b_Cor_count 78 = .ok (.aload_n 0, 1) := by decide +kernel
theorem d_Cor_count_79 : decode b_Cor_count 79 = .ok (.getfield 178, 3) := by decide +kernel
theorem d_Cor_count_82 : decode b_Cor_count 82 = .ok (.ireturn, 1) := by decide +kernel
theorem d_Cor_count_83 : decode b_Cor_count 83 = .ok (.aload_n 0, 1) := by decide +kernel
theorem d_Cor_count_84 : decode b_Cor_count 84 = .ok (.getfield 96, 3) := by decide +kernel
theorem d_Cor_count_87 : decode b_Cor_count 87 = .ok (.ireturn, 1) := by decide +kernel
theorem d_Cor_count_88 : decode b_Cor_count 88 = .ok (.aload_n 0, 1) := by decide +kernel
theorem d_Cor_count_89 : decode b_Cor_count 89 = .ok (.getfield 12, 3) := by decide +kernel
theorem d_Cor_count_92 : decode b_Cor_count 92 = .ok (.getfield 61, 3) := by decide +kernel
theorem d_Cor_count_95 : decode b_Cor_count 95 = .ok (.invokevirtual 181, 3) := by decide +kernel
theorem d_Cor_count_98 : decode b_Cor_count 98 = .ok (.ireturn, 1) := by decide +kernel
theorem d_Cor_count_99 : decode b_Cor_count 99 = .ok (.new 91, 3) := by decide +kernel
theorem d_Cor_count_102 : decode b_Cor_count 102 = .ok (.dup, 1) := by decide +kernel
theorem d_Cor_count_103 : decode b_Cor_count 103 = .ok (.ldc 184, 2) := by decide +kernel
theorem d_Cor_count_105 : decode b_Cor_count 105 = .ok (.invokespecial 95, 3) := by decide +kernel
theorem d_Cor_count_108 : decode b_Cor_count 108 = .ok (.athrow, 1) := by decide +kernel
theorem d_Cor_pack_0 : decode b_Cor_pack 0 = .ok (.iload_n 1, 1) := by decide +kernel
theorem d_Cor_pack_1 : decode b_Cor_pack 1 = .ok (.lload_n 2, 1) := by decide +kernel
theorem d_Cor_pack_2 : decode b_Cor_pack 2 = .ok (.invokestatic 87, 3) := by decide +kernel
theorem d_Cor_pack_5 : decode b_Cor_pack 5 = .ok (.ifCond .ne 13, 3) := by decide +kernel
theorem d_Cor_pack_8 : decode b_Cor_pack 8 = .ok (.new 91, 3) := by decide +kernel
theorem d_Cor_pack_11 : decode b_Cor_pack 11 = .ok (.dup, 1) := by decide +kernel
theorem d_Cor_pack_12 : decode b_Cor_pack 12 = .ok (.ldc 186, 2) := by decide +kernel
theorem d_Cor_pack_14 : decode b_Cor_pack 14 = .ok (.invokespecial 95, 3) := by decide +kernel
theorem d_Cor_pack_17 : decode b_Cor_pack 17 = .ok (.athrow, 1) := by decide +kernel
theorem d_Cor_pack_18 : decode b_Cor_pack 18 = .ok (.iload_n 1, 1) := by decide +kernel
theorem d_Cor_pack_19 : decode b_Cor_pack 19 = .ok (.i2l, 1) := by decide +kernel
theorem d_Cor_pack_20 : decode b_Cor_pack 20 = .ok (.ldc2_w 105, 3) := by decide +kernel
theorem d_Cor_pack_23 : decode b_Cor_pack 23 = .ok (.land, 1) := by decide +kernel
theorem d_Cor_pack_24 : decode b_Cor_pack 24 = .ok (.lstore 4, 2) := by decide +kernel
theorem d_Cor_pack_26 : decode b_Cor_pack 26 = .ok (.aload_n 0, 1) := by decide +kernel
theorem d_Cor_pack_27 : decode b_Cor_pack 27 = .ok (.getfield 35, 3) := by decide +kernel
theorem d_Cor_pack_30 : decode b_Cor_pack 30 = .ok (.lload 4, 2) := by decide +kernel
theorem d_Cor_pack_32 : decode b_Cor_pack 32 = .ok (.lload 4, 2) := by decide +kernel
theorem d_Cor_pack_34 : decode b_Cor_pack 34 = .ok (.lload_n 2, 1) := by decide +kernel
theorem d_Cor_pack_35 : decode b_Cor_pack 35 = .ok (.ladd, 1) := by decide +kernel
theorem d_Cor_pack_36 : decode b_Cor_pack 36 = .ok (.invokevirtual 107, 3) := by decide +kernel
theorem d_Cor_pack_39 : decode b_Cor_pack 39 = .ok (.aload_n 0, 1) := by decide +kernel
theorem d_Cor_pack_40 : decode b_Cor_pack 40 = .ok (.getfield 35, 3) := by decide +kernel
theorem d_Cor_pack_43 : decode b_Cor_pack 43 = .ok (.getfield 115, 3) := by decide +kernel
theorem d_Cor_pack_46 : decode b_Cor_pack 46 = .ok (.aload_n 0, 1) := by decide +kernel
theorem d_Cor_pack_47 : decode b_Cor_pack 47 = .ok (.getfield 35, 3) := by decide +kernel
theorem d_Cor_pack_50 : decode b_Cor_pack 50 = .ok (.getfield 188, 3) := by decide +kernel
theorem d_Cor_pack_53 : decode b_Cor_pack 53 = .ok (.ifCond .eq 8, 3) := by decide +kernel
theorem d_Cor_pack_56 : decode b_Cor_pack 56 = .ok (.ldc 191, 2) := by decide +kernel
theorem d_Cor_pack_58 : decode b_Cor_pack 58 = .ok (.goto 4, 3) := by decide +kernel
theorem d_Cor_pack_61 : decode b_Cor_pack 61 = .ok (.iconst 0, 1) := by decide +kernel
theorem d_Cor_pack_62 : decode b_Cor_pack 62 = .ok (.ior, 1) := by decide +kernel
theorem d_Cor_pack_63 : decode b_Cor_pack 63 = .ok (.ireturn, 1) := by decide +kernel
