theorem d_Sta_init_0 : decode b_Sta_init 0 = .ok (.aload_n 0, 1) := by decide +kernel
theorem d_Sta_init_1 : decode b_Sta_init 1 = .ok (.invokespecial 3, 3) := by decide +kernel
theorem d_Sta_init_4 : decode b_Sta_init 4 = .ok (.aload_n 0, 1) := by decide +kernel
theorem d_Sta_init_5 : decode b_Sta_init 5 = .ok (.bipush 37, 2) := by decide +kernel
theorem d_Sta_init_7 : decode b_Sta_init 7 = .ok (.anewarray 9, 3) := by decide +kernel
theorem d_Sta_init_10 : decode b_Sta_init 10 = .ok (.putfield 11, 3) := by decide +kernel
theorem d_Sta_init_13 : decode b_Sta_init 13 = .ok (.aload_n 0, 1) := by decide +kernel
theorem d_Sta_init_14 : decode b_Sta_init 14 = .ok (.new 9, 3) := by decide +kernel
theorem d_Sta_init_17 : decode b_Sta_init 17 = .ok (.dup, 1) := by decide +kernel
theorem d_Sta_init_18 : decode b_Sta_init 18 = .ok (.invokespecial 17, 3) := by decide +kernel
theorem d_Sta_init_21 : decode b_Sta_init 21 = .ok (.putfield 18, 3) := by decide +kernel
theorem d_Sta_init_24 : decode b_Sta_init 24 = .ok (.aload_n 0, 1) := by decide +kernel
theorem d_Sta_init_25 : decode b_Sta_init 25 = .ok (.new 22, 3) := by decide +kernel
theorem d_Sta_init_28 : decode b_Sta_init 28 = .ok (.dup, 1) := by decide +kernel
theorem d_Sta_init_29 : decode b_Sta_init 29 = .ok (.invokespecial 24, 3) := by decide +kernel
theorem d_Sta_init_32 : decode b_Sta_init 32 = .ok (.putfield 25, 3) := by decide +kernel
theorem d_Sta_init_35 : decode b_Sta_init 35 = .ok (.aload_n 0, 1) := by decide +kernel
theorem d_Sta_init_36 : decode b_Sta_init 36 = .ok (.new 29, 3) := by decide +kernel
theorem d_Sta_init_39 : decode b_Sta_init 39 = .ok (.dup, 1) := by decide +kernel
theorem d_Sta_init_40 : decode b_Sta_init 40 = .ok (.aload_n 0, 1) := by decide +kernel
theorem d_Sta_init_41 : decode b_Sta_init 41 = .ok (.getfield 25, 3) := by decide +kernel
theorem d_Sta_init_44 : decode b_Sta_init 44 = .ok (.invokespecial 31, 3) := by decide +kernel
theorem d_Sta_init_47 : decode b_Sta_init 47 = .ok (.putfield 34, 3) := by decide +kernel
theorem d_Sta_init_50 : decode b_Sta_init 50 = .ok (.iconst 0, 1) := by decide +kernel
theorem d_Sta_init_51 : decode b_Sta_init 51 = .ok (.istore_n 1, 1) := by decide +kernel
theorem d_Sta_init_52 : decode b_Sta_init 52 = .ok (.iload_n 1, 1) := by decide +kernel
theorem d_Sta_init_53 : decode b_Sta_init 53 = .ok (.bipush 37, 2) := by decide +kernel
theorem d_Sta_init_55 : decode b_Sta_init 55 = .ok (.if_icmp .ge 22, 3) := by decide +kernel
theorem d_Sta_init_58 : decode b_Sta_init 58 = .ok (.aload_n 0, 1) := by decide +kernel
theorem d_Sta_init_59 : decode b_Sta_init 59 = .ok (.getfield 11, 3) := by decide +kernel
theorem d_Sta_init_62 : decode b_Sta_init 62 = .ok (.iload_n 1, 1) := by decide +kernel
theorem d_Sta_init_63 : decode b_Sta_init 63 = .ok (.new 9, 3) := by decide +kernel
theorem d_Sta_init_66 : decode b_Sta_init 66 = .ok (.dup, 1) := by decide +kernel
theorem d_Sta_init_67 : decode b_Sta_init 67 = .ok (.invokespecial 17, 3) := by decide +kernel
theorem d_Sta_init_70 : decode b_Sta_init 70 = .ok (.aastore, 1) := by decide +kernel
theorem d_Sta_init_71 : decode b_Sta_init 71 = .ok (.iinc 1 1, 3) := by decide +kernel
theorem d_Sta_init_74 : decode b_Sta_init 74 = .ok (.goto (-22), 3) := by decide +kernel
theorem d_Sta_init_77 : decode b_Sta_init 77 = .ok (.aload_n 0, 1) := by decide +kernel
theorem d_Sta_init_78 : decode b_Sta_init 78 = .ok (.aload_n 0, 1) := by decide +kernel
theorem d_Sta_init_79 : decode b_Sta_init 79 = .ok (.getfield 11, 3) := by decide +kernel
theorem d_Sta_init_82 : decode b_Sta_init 82 = .ok (.bipush 32, 2) := by decide +kernel
theorem d_Sta_init_84 : decode b_Sta_init 84 = .ok (.aaload, 1) := by decide +kernel
theorem d_Sta_init_85 : decode b_Sta_init 85 = .ok (.putfield 38, 3) := by decide +kernel
theorem d_Sta_init_88 : decode b_Sta_init 88 = .ok (.return_, 1) := by decide +kernel
theorem d_Mem_init_0 : decode b_Mem_init 0 = .ok (.aload_n 0, 1) := by decide +kernel
theorem d_Mem_init_1 : decode b_Mem_init 1 = .ok (.invokespecial 3, 3) := by decide +kernel
theorem d_Mem_init_4 : decode b_Mem_init 4 = .ok (.aload_n 0, 1) := by decide +kernel
theorem d_Mem_init_5 : decode b_Mem_init 5 = .ok (.sipush 4096, 3) := by decide +kernel
theorem d_Mem_init_8 : decode b_Mem_init 8 = .ok (.newarray .int, 2) := by decide +kernel
theorem d_Mem_init_10 : decode b_Mem_init 10 = .ok (.putfield 9, 3) := by decide +kernel
theorem d_Mem_init_13 : decode b_Mem_init 13 = .ok (.aload_n 0, 1) := by decide +kernel
theorem d_Mem_init_14 : decode b_Mem_init 14 = .ok (.new 15, 3) := by decide +kernel
theorem d_Mem_init_17 : decode b_Mem_init 17 = .ok (.dup, 1) := by decide +kernel
theorem d_Mem_init_18 : decode b_Mem_init 18 = .ok (.invokespecial 17, 3) := by decide +kernel
theorem d_Mem_init_21 : decode b_Mem_init 21 = .ok (.putfield 18, 3) := by decide +kernel
theorem d_Mem_init_24 : decode b_Mem_init 24 = .ok (.aload_n 0, 1) := by decide +kernel
theorem d_Mem_init_25 : decode b_Mem_init 25 = .ok (.new 22, 3) := by decide +kernel
theorem d_Mem_init_28 : decode b_Mem_init 28 = .ok (.dup, 1) := by decide +kernel
theorem d_Mem_init_29 : decode b_Mem_init 29 = .ok (.invokespecial 24, 3) := by decide +kernel
theorem d_Mem_init_32 : decode b_Mem_init 32 = .ok (.putfield 25, 3) := by decide +kernel
theorem d_Mem_init_35 : decode b_Mem_init 35 = .ok (.aload_n 0, 1) := by decide +kernel
theorem d_Mem_init_36 : decode b_Mem_init 36 = .ok (.sipush 256, 3) := by decide +kernel
theorem d_Mem_init_39 : decode b_Mem_init 39 = .ok (.newarray .int, 2) := by decide +kernel
theorem d_Mem_init_41 : decode b_Mem_init 41 = .ok (.putfield 29, 3) := by decide +kernel
theorem d_Mem_init_44 : decode b_Mem_init 44 = .ok (.aload_n 0, 1) := by decide +kernel
theorem d_Mem_init_45 : decode b_Mem_init 45 = .ok (.bipush 32, 2) := by decide +kernel
theorem d_Mem_init_47 : decode b_Mem_init 47 = .ok (.newarray .int, 2) := by decide +kernel
theorem d_Mem_init_49 : decode b_Mem_init 49 = .ok (.putfield 32, 3) := by decide +kernel
theorem d_Mem_init_52 : decode b_Mem_init 52 = .ok (.aload_n 0, 1) := by decide +kernel
theorem d_Mem_init_53 : decode b_Mem_init 53 = .ok (.bipush 32, 2) := by decide +kernel
theorem d_Mem_init_55 : decode b_Mem_init 55 = .ok (.newarray .boolean, 2) := by decide +kernel
theorem d_Mem_init_57 : decode b_Mem_init 57 = .ok (.putfield 35, 3) := by decide +kernel
theorem d_Mem_init_60 : decode b_Mem_init 60 = .ok (.return_, 1) := by decide +kernel
theorem d_Pip_init_0 : decode b_Pip_init 0 = .ok (.aload_n 0, 1) := by decide +kernel
theorem d_Pip_init_1 : decode b_Pip_init 1 = .ok (.invokespecial 3, 3) := by decide +kernel
theorem d_Pip_init_4 : decode b_Pip_init 4 = .ok (.aload_n 0, 1) := by decide +kernel
theorem d_Pip_init_5 : decode b_Pip_init 5 = .ok (.new 9, 3) := by decide +kernel
theorem d_Pip_init_8 : decode b_Pip_init 8 = .ok (.dup, 1) := by decide +kernel
theorem d_Pip_init_9 : decode b_Pip_init 9 = .ok (.invokespecial 11, 3) := by decide +kernel
theorem d_Pip_init_12 : decode b_Pip_init 12 = .ok (.putfield 12, 3) := by decide +kernel
theorem d_Pip_init_15 : decode b_Pip_init 15 = .ok (.aload_n 0, 1) := by decide +kernel
theorem d_Pip_init_16 : decode b_Pip_init 16 = .ok (.new 9, 3) := by decide +kernel
theorem d_Pip_init_19 : decode b_Pip_init 19 = .ok (.dup, 1) := by decide +kernel
theorem d_Pip_init_20 : decode b_Pip_init 20 = .ok (.invokespecial 11, 3) := by decide +kernel
theorem d_Pip_init_23 : decode b_Pip_init 23 = .ok (.putfield 18, 3) := by decide +kernel
theorem d_Pip_init_26 : decode b_Pip_init 26 = .ok (.aload_n 0, 1) := by decide +kernel
theorem d_Pip_init_27 : decode b_Pip_init 27 = .ok (.iconst (-1), 1) := by decide +kernel
theorem d_Pip_init_28 : decode b_Pip_init 28 = .ok (.putfield 21, 3) := by decide +kernel
theorem d_Pip_init_31 : decode b_Pip_init 31 = .ok (.aload_n 0, 1) := by decide +kernel
theorem d_Pip_init_32 : decode b_Pip_init 32 = .ok (.aload_n 1, 1) := by decide +kernel
theorem d_Pip_init_33 : decode b_Pip_init 33 = .ok (.putfield 25, 3) := by decide +kernel
theorem d_Pip_init_36 : decode b_Pip_init 36 = .ok (.return_, 1) := by decide +kernel
theorem d_Ins_init_0 : decode b_Ins_init 0 = .ok (.aload_n 0, 1) := by decide +kernel
theorem d_Ins_init_1 : decode b_Ins_init 1 = .ok (.invokespecial 3, 3) := by decide +kernel
theorem d_Ins_init_4 : decode b_Ins_init 4 = .ok (.aload_n 0, 1) := by decide +kernel
theorem d_Ins_init_5 : decode b_Ins_init 5 = .ok (.iconst (-1), 1) := by decide +kernel
theorem d_Ins_init_6 : decode b_Ins_init 6 = .ok (.putfield 9, 3) := by decide +kernel
theorem d_Ins_init_9 : decode b_Ins_init 9 = .ok (.return_, 1) := by decide +kernel
theorem d_Mem_seenTag_0 : decode b_Mem_seenTag 0 = .ok (.aload_n 0, 1) := by decide +kernel
theorem d_Mem_seenTag_1 : decode b_Mem_seenTag 1 = .ok (.iload_n 1, 1) := by decide +kernel
theorem d_Mem_seenTag_2 : decode b_Mem_seenTag 2 = .ok (.bipush 8, 2) := by decide +kernel
theorem d_Mem_seenTag_4 : decode b_Mem_seenTag 4 = .ok (.idiv, 1) := by decide +kernel
theorem d_Mem_seenTag_5 : decode b_Mem_seenTag 5 = .ok (.invokevirtual 49, 3) := by decide +kernel
theorem d_Mem_seenTag_8 : decode b_Mem_seenTag 8 = .ok (.iload_n 1, 1) := by decide +kernel
theorem d_Mem_seenTag_9 : decode b_Mem_seenTag 9 = .ok (.invokestatic 43, 3) := by decide +kernel
theorem d_Mem_seenTag_12 : decode b_Mem_seenTag 12 = .ok (.iand, 1) := by decide +kernel
theorem d_Mem_seenTag_13 : decode b_Mem_seenTag 13 = .ok (.ifCond .eq 7, 3) := by decide +kernel
theorem d_Mem_seenTag_16 : decode b_Mem_seenTag 16 = .ok (.iconst 1, 1) := by decide +kernel
theorem d_Mem_seenTag_17 : decode b_Mem_seenTag 17 = .ok (.goto 4, 3) := by decide +kernel
theorem d_Mem_seenTag_20 : decode b_Mem_seenTag 20 = .ok (.iconst 0, 1) := by decide +kernel
theorem d_Mem_seenTag_21 : decode b_Mem_seenTag 21 = .ok (.ireturn, 1) := by decide +kernel
theorem d_Mem_seenTags_0 : decode b_Mem_seenTags 0 = .ok (.aload_n 0, 1) := by decide +kernel
theorem d_Mem_seenTags_1 : decode b_Mem_seenTags 1 = .ok (.getfield 25, 3) := by decide +kernel
theorem d_Mem_seenTags_4 : decode b_Mem_seenTags 4 = .ok (.iload_n 1, 1) := by decide +kernel
theorem d_Mem_seenTags_5 : decode b_Mem_seenTags 5 = .ok (.invokevirtual 46, 3) := by decide +kernel
theorem d_Mem_seenTags_8 : decode b_Mem_seenTags 8 = .ok (.istore_n 2, 1) := by decide +kernel
theorem d_Mem_seenTags_9 : decode b_Mem_seenTags 9 = .ok (.iload_n 2, 1) := by decide +kernel
theorem d_Mem_seenTags_10 : decode b_Mem_seenTags 10 = .ok (.iconst (-1), 1) := by decide +kernel
theorem d_Mem_seenTags_11 : decode b_Mem_seenTags 11 = .ok (.if_icmp .ne 14, 3) := by decide +kernel
theorem d_Mem_seenTags_14 : decode b_Mem_seenTags 14 = .ok (.aload_n 0, 1) := by decide +kernel
theorem d_Mem_seenTags_15 : decode b_Mem_seenTags 15 = .ok (.getfield 18, 3) := by decide +kernel
theorem d_Mem_seenTags_18 : decode b_Mem_seenTags 18 = .ok (.iload_n 1, 1) := by decide +kernel
theorem d_Mem_seenTags_19 : decode b_Mem_seenTags 19 = .ok (.invokevirtual 71, 3) := by decide +kernel
theorem d_Mem_seenTags_22 : decode b_Mem_seenTags 22 = .ok (.goto 9, 3) := by decide +kernel
theorem d_Mem_seenTags_25 : decode b_Mem_seenTags 25 = .ok (.aload_n 0, 1) := by decide +kernel
theorem d_Mem_seenTags_26 : decode b_Mem_seenTags 26 = .ok (.getfield 32, 3) := by decide +kernel
theorem d_Mem_seenTags_29 : decode b_Mem_seenTags 29 = .ok (.iload_n 2, 1) := by decide +kernel
theorem d_Mem_seenTags_30 : decode b_Mem_seenTags 30 = .ok (.iaload, 1) := by decide +kernel
theorem d_Mem_seenTags_31 : decode b_Mem_seenTags 31 = .ok (.ireturn, 1) := by decide +kernel
theorem d_Mem_tagBit_0 : decode b_Mem_tagBit 0 = .ok (.iconst 1, 1) := by decide +kernel
theorem d_Mem_tagBit_1 : decode b_Mem_tagBit 1 = .ok (.iload_n 0, 1) := by decide +kernel
theorem d_Mem_tagBit_2 : decode b_Mem_tagBit 2 = .ok (.bipush 8, 2) := by decide +kernel
theorem d_Mem_tagBit_4 : decode b_Mem_tagBit 4 = .ok (.irem, 1) := by decide +kernel
theorem d_Mem_tagBit_5 : decode b_Mem_tagBit 5 = .ok (.iconst 2, 1) := by decide +kernel
theorem d_Mem_tagBit_6 : decode b_Mem_tagBit 6 = .ok (.idiv, 1) := by decide +kernel
theorem d_Mem_tagBit_7 : decode b_Mem_tagBit 7 = .ok (.ishl, 1) := by decide +kernel
theorem d_Mem_tagBit_8 : decode b_Mem_tagBit 8 = .ok (.ireturn, 1) := by decide +kernel
theorem d_Mem_seenWord_0 : decode b_Mem_seenWord 0 = .ok (.aload_n 0, 1) := by decide +kernel
theorem d_Mem_seenWord_1 : decode b_Mem_seenWord 1 = .ok (.getfield 25, 3) := by decide +kernel
theorem d_Mem_seenWord_4 : decode b_Mem_seenWord 4 = .ok (.iload_n 1, 1) := by decide +kernel
theorem d_Mem_seenWord_5 : decode b_Mem_seenWord 5 = .ok (.bipush 8, 2) := by decide +kernel
theorem d_Mem_seenWord_7 : decode b_Mem_seenWord 7 = .ok (.idiv, 1) := by decide +kernel
theorem d_Mem_seenWord_8 : decode b_Mem_seenWord 8 = .ok (.invokevirtual 46, 3) := by decide +kernel
theorem d_Mem_seenWord_11 : decode b_Mem_seenWord 11 = .ok (.istore_n 2, 1) := by decide +kernel
theorem d_Mem_seenWord_12 : decode b_Mem_seenWord 12 = .ok (.iload_n 2, 1) := by decide +kernel
theorem d_Mem_seenWord_13 : decode b_Mem_seenWord 13 = .ok (.iconst (-1), 1) := by decide +kernel
theorem d_Mem_seenWord_14 : decode b_Mem_seenWord 14 = .ok (.if_icmp .ne 12, 3) := by decide +kernel
theorem d_Mem_seenWord_17 : decode b_Mem_seenWord 17 = .ok (.aload_n 0, 1) := by decide +kernel
theorem d_Mem_seenWord_18 : decode b_Mem_seenWord 18 = .ok (.getfield 9, 3) := by decide +kernel
theorem d_Mem_seenWord_21 : decode b_Mem_seenWord 21 = .ok (.iload_n 1, 1) := by decide +kernel
theorem d_Mem_seenWord_22 : decode b_Mem_seenWord 22 = .ok (.iaload, 1) := by decide +kernel
theorem d_Mem_seenWord_23 : decode b_Mem_seenWord 23 = .ok (.goto 17, 3) := by decide +kernel
theorem d_Mem_seenWord_26 : decode b_Mem_seenWord 26 = .ok (.aload_n 0, 1) := by decide +kernel
theorem d_Mem_seenWord_27 : decode b_Mem_seenWord 27 = .ok (.getfield 29, 3) := by decide +kernel
theorem d_Mem_seenWord_30 : decode b_Mem_seenWord 30 = .ok (.iload_n 2, 1) := by decide +kernel
theorem d_Mem_seenWord_31 : decode b_Mem_seenWord 31 = .ok (.bipush 8, 2) := by decide +kernel
theorem d_Mem_seenWord_33 : decode b_Mem_seenWord 33 = .ok (.imul, 1) := by decide +kernel
theorem d_Mem_seenWord_34 : decode b_Mem_seenWord 34 = .ok (.iload_n 1, 1) := by decide +kernel
theorem d_Mem_seenWord_35 : decode b_Mem_seenWord 35 = .ok (.bipush 8, 2) := by decide +kernel
theorem d_Mem_seenWord_37 : decode b_Mem_seenWord 37 = .ok (.irem, 1) := by decide +kernel
theorem d_Mem_seenWord_38 : decode b_Mem_seenWord 38 = .ok (.iadd, 1) := by decide +kernel
theorem d_Mem_seenWord_39 : decode b_Mem_seenWord 39 = .ok (.iaload, 1) := by decide +kernel
theorem d_Mem_seenWord_40 : decode b_Mem_seenWord 40 = .ok (.ireturn, 1) := by decide +kernel
theorem d_Mem_wrongs_0 : decode b_Mem_wrongs 0 = .ok (.aload_n 0, 1) := by decide +kernel
theorem d_Mem_wrongs_1 : decode b_Mem_wrongs 1 = .ok (.getfield 25, 3) := by decide +kernel
theorem d_Mem_wrongs_4 : decode b_Mem_wrongs 4 = .ok (.invokevirtual 57, 3) := by decide +kernel
theorem d_Mem_wrongs_7 : decode b_Mem_wrongs 7 = .ok (.aload_n 0, 1) := by decide +kernel
theorem d_Mem_wrongs_8 : decode b_Mem_wrongs 8 = .ok (.getfield 18, 3) := by decide +kernel
theorem d_Mem_wrongs_11 : decode b_Mem_wrongs 11 = .ok (.invokevirtual 61, 3) := by decide +kernel
theorem d_Mem_wrongs_14 : decode b_Mem_wrongs 14 = .ok (.iadd, 1) := by decide +kernel
theorem d_Mem_wrongs_15 : decode b_Mem_wrongs 15 = .ok (.istore_n 1, 1) := by decide +kernel
theorem d_Mem_wrongs_16 : decode b_Mem_wrongs 16 = .ok (.iconst 0, 1) := by decide +kernel
theorem d_Mem_wrongs_17 : decode b_Mem_wrongs 17 = .ok (.istore_n 2, 1) := by decide +kernel
theorem d_Mem_wrongs_18 : decode b_Mem_wrongs 18 = .ok (.iload_n 2, 1) := by decide +kernel
theorem d_Mem_wrongs_19 : decode b_Mem_wrongs 19 = .ok (.bipush 32, 2) := by decide +kernel
theorem d_Mem_wrongs_21 : decode b_Mem_wrongs 21 = .ok (.if_icmp .ge 78, 3) := by decide +kernel
theorem d_Mem_wrongs_24 : decode b_Mem_wrongs 24 = .ok (.aload_n 0, 1) := by decide +kernel
theorem d_Mem_wrongs_25 : decode b_Mem_wrongs 25 = .ok (.getfield 25, 3) := by decide +kernel
theorem d_Mem_wrongs_28 : decode b_Mem_wrongs 28 = .ok (.getfield 64, 3) := by decide +kernel
theorem d_Mem_wrongs_31 : decode b_Mem_wrongs 31 = .ok (.iload_n 2, 1) := by decide +kernel
theorem d_Mem_wrongs_32 : decode b_Mem_wrongs 32 = .ok (.iaload, 1) := by decide +kernel
theorem d_Mem_wrongs_33 : decode b_Mem_wrongs 33 = .ok (.istore_n 3, 1) := by decide +kernel
theorem d_Mem_wrongs_34 : decode b_Mem_wrongs 34 = .ok (.iload_n 3, 1) := by decide +kernel
theorem d_Mem_wrongs_35 : decode b_Mem_wrongs 35 = .ok (.iconst (-1), 1) := by decide +kernel
theorem d_Mem_wrongs_36 : decode b_Mem_wrongs 36 = .ok (.if_icmp .ne 18, 3) := by decide +kernel
theorem d_Mem_wrongs_39 : decode b_Mem_wrongs 39 = .ok (.iload_n 1, 1) := by decide +kernel
theorem d_Mem_wrongs_40 : decode b_Mem_wrongs 40 = .ok (.aload_n 0, 1) := by decide +kernel
theorem d_Mem_wrongs_41 : decode b_Mem_wrongs 41 = .ok (.getfield 32, 3) := by decide +kernel
theorem d_Mem_wrongs_44 : decode b_Mem_wrongs 44 = .ok (.iload_n 2, 1) := by decide +kernel
theorem d_Mem_wrongs_45 : decode b_Mem_wrongs 45 = .ok (.iaload, 1) := by decide +kernel
theorem d_Mem_wrongs_46 : decode b_Mem_wrongs 46 = .ok (.invokestatic 52, 3) := by decide +kernel
theorem d_Mem_wrongs_49 : decode b_Mem_wrongs 49 = .ok (.iadd, 1) := by decide +kernel
theorem d_Mem_wrongs_50 : decode b_Mem_wrongs 50 = .ok (.istore_n 1, 1) := by decide +kernel
theorem d_Mem_wrongs_51 : decode b_Mem_wrongs 51 = .ok (.goto 42, 3) := by decide +kernel
theorem d_Mem_wrongs_54 : decode b_Mem_wrongs 54 = .ok (.aload_n 0, 1) := by decide +kernel
theorem d_Mem_wrongs_55 : decode b_Mem_wrongs 55 = .ok (.getfield 35, 3) := by decide +kernel
theorem d_Mem_wrongs_58 : decode b_Mem_wrongs 58 = .ok (.iload_n 2, 1) := by decide +kernel
theorem d_Mem_wrongs_59 : decode b_Mem_wrongs 59 = .ok (.baload, 1) := by decide +kernel
theorem d_Mem_wrongs_60 : decode b_Mem_wrongs 60 = .ok (.ifCond .ne 33, 3) := by decide +kernel
theorem d_Mem_wrongs_63 : decode b_Mem_wrongs 63 = .ok (.iload_n 1, 1) := by decide +kernel
theorem d_Mem_wrongs_64 : decode b_Mem_wrongs 64 = .ok (.aload_n 0, 1) := by decide +kernel
theorem d_Mem_wrongs_65 : decode b_Mem_wrongs 65 = .ok (.iload_n 2, 1) := by decide +kernel
theorem d_Mem_wrongs_66 : decode b_Mem_wrongs 66 = .ok (.iload_n 3, 1) := by decide +kernel
theorem d_Mem_wrongs_67 : decode b_Mem_wrongs 67 = .ok (.invokevirtual 67, 3) := by decide +kernel
theorem d_Mem_wrongs_70 : decode b_Mem_wrongs 70 = .ok (.iadd, 1) := by decide +kernel
theorem d_Mem_wrongs_71 : decode b_Mem_wrongs 71 = .ok (.istore_n 1, 1) := by decide +kernel
theorem d_Mem_wrongs_72 : decode b_Mem_wrongs 72 = .ok (.iload_n 1, 1) := by decide +kernel
theorem d_Mem_wrongs_73 : decode b_Mem_wrongs 73 = .ok (.aload_n 0, 1) := by decide +kernel
theorem d_Mem_wrongs_74 : decode b_Mem_wrongs 74 = .ok (.getfield 32, 3) := by decide +kernel
theorem d_Mem_wrongs_77 : decode b_Mem_wrongs 77 = .ok (.iload_n 2, 1) := by decide +kernel
theorem d_Mem_wrongs_78 : decode b_Mem_wrongs 78 = .ok (.iaload, 1) := by decide +kernel
theorem d_Mem_wrongs_79 : decode b_Mem_wrongs 79 = .ok (.aload_n 0, 1) := by decide +kernel
theorem d_Mem_wrongs_80 : decode b_Mem_wrongs 80 = .ok (.getfield 18, 3) := by decide +kernel
theorem d_Mem_wrongs_83 : decode b_Mem_wrongs 83 = .ok (.iload_n 3, 1) := by decide +kernel
theorem d_Mem_wrongs_84 : decode b_Mem_wrongs 84 = .ok (.invokevirtual 71, 3) := by decide +kernel
theorem d_Mem_wrongs_87 : decode b_Mem_wrongs 87 = .ok (.ixor, 1) := by decide +kernel
theorem d_Mem_wrongs_88 : decode b_Mem_wrongs 88 = .ok (.invokestatic 52, 3) := by decide +kernel
theorem d_Mem_wrongs_91 : decode b_Mem_wrongs 91 = .ok (.iadd, 1) := by decide +kernel
theorem d_Mem_wrongs_92 : decode b_Mem_wrongs 92 = .ok (.istore_n 1, 1) := by decide +kernel
theorem d_Mem_wrongs_93 : decode b_Mem_wrongs 93 = .ok (.iinc 2 1, 3) := by decide +kernel
theorem d_Mem_wrongs_96 : decode b_Mem_wrongs 96 = .ok (.goto (-78), 3) := by decide +kernel
theorem d_Mem_wrongs_99 : decode b_Mem_wrongs 99 = .ok (.iload_n 1, 1) := by decide +kernel
theorem d_Mem_wrongs_100 : decode b_Mem_wrongs 100 = .ok (.ireturn, 1) := by decide +kernel
theorem d_Mem_wordsUnlikeMemory_0 : decode b_Mem_wordsUnlikeMemory 0 = .ok (.iconst 0, 1) := by decide +kernel
theorem d_Mem_wordsUnlikeMemory_1 : decode b_Mem_wordsUnlikeMemory 1 = .ok (.istore_n 3, 1) := by decide +kernel
theorem d_Mem_wordsUnlikeMemory_2 : decode b_Mem_wordsUnlikeMemory 2 = .ok (.iconst 0, 1) := by decide +kernel
theorem d_Mem_wordsUnlikeMemory_3 : decode b_Mem_wordsUnlikeMemory 3 = .ok (.istore 4, 2) := by decide +kernel
theorem d_Mem_wordsUnlikeMemory_5 : decode b_Mem_wordsUnlikeMemory 5 = .ok (.iload 4, 2) := by decide +kernel
theorem d_Mem_wordsUnlikeMemory_7 : decode b_Mem_wordsUnlikeMemory 7 = .ok (.bipush 8, 2) := by decide +kernel
theorem d_Mem_wordsUnlikeMemory_9 : decode b_Mem_wordsUnlikeMemory 9 = .ok (.if_icmp .ge 44, 3) := by decide +kernel
theorem d_Mem_wordsUnlikeMemory_12 : decode b_Mem_wordsUnlikeMemory 12 = .ok (.iload_n 3, 1) := by decide +kernel
theorem d_Mem_wordsUnlikeMemory_13 : decode b_Mem_wordsUnlikeMemory 13 = .ok (.aload_n 0, 1) := by decide +kernel
theorem d_Mem_wordsUnlikeMemory_14 : decode b_Mem_wordsUnlikeMemory 14 = .ok (.getfield 29, 3) := by decide +kernel
theorem d_Mem_wordsUnlikeMemory_17 : decode b_Mem_wordsUnlikeMemory 17 = .ok (.iload_n 1, 1) := by decide +kernel
theorem d_Mem_wordsUnlikeMemory_18 : decode b_Mem_wordsUnlikeMemory 18 = .ok (.bipush 8, 2) := by decide +kernel
theorem d_Mem_wordsUnlikeMemory_20 : decode b_Mem_wordsUnlikeMemory 20 = .ok (.imul, 1) := by decide +kernel
theorem d_Mem_wordsUnlikeMemory_21 : decode b_Mem_wordsUnlikeMemory 21 = .ok (.iload 4, 2) := by decide +kernel
theorem d_Mem_wordsUnlikeMemory_23 : decode b_Mem_wordsUnlikeMemory 23 = .ok (.iadd, 1) := by decide +kernel
theorem d_Mem_wordsUnlikeMemory_24 : decode b_Mem_wordsUnlikeMemory 24 = .ok (.iaload, 1) := by decide +kernel
theorem d_Mem_wordsUnlikeMemory_25 : decode b_Mem_wordsUnlikeMemory 25 = .ok (.aload_n 0, 1) := by decide +kernel
theorem d_Mem_wordsUnlikeMemory_26 : decode b_Mem_wordsUnlikeMemory 26 = .ok (.getfield 9, 3) := by decide +kernel
theorem d_Mem_wordsUnlikeMemory_29 : decode b_Mem_wordsUnlikeMemory 29 = .ok (.iload_n 2, 1) := by decide +kernel
theorem d_Mem_wordsUnlikeMemory_30 : decode b_Mem_wordsUnlikeMemory 30 = .ok (.bipush 8, 2) := by decide +kernel
theorem d_Mem_wordsUnlikeMemory_32 : decode b_Mem_wordsUnlikeMemory 32 = .ok (.imul, 1) := by decide +kernel
theorem d_Mem_wordsUnlikeMemory_33 : decode b_Mem_wordsUnlikeMemory 33 = .ok (.iload 4, 2) := by decide +kernel
theorem d_Mem_wordsUnlikeMemory_35 : decode b_Mem_wordsUnlikeMemory 35 = .ok (.iadd, 1) := by decide +kernel
theorem d_Mem_wordsUnlikeMemory_36 : decode b_Mem_wordsUnlikeMemory 36 = .ok (.iaload, 1) := by decide +kernel
theorem d_Mem_wordsUnlikeMemory_37 : decode b_Mem_wordsUnlikeMemory 37 = .ok (.if_icmp .eq 7, 3) := by decide +kernel
theorem d_Mem_wordsUnlikeMemory_40 : decode b_Mem_wordsUnlikeMemory 40 = .ok (.iconst 1, 1) := by decide +kernel
theorem d_Mem_wordsUnlikeMemory_41 : decode b_Mem_wordsUnlikeMemory 41 = .ok (.goto 4, 3) := by decide +kernel
theorem d_Mem_wordsUnlikeMemory_44 : decode b_Mem_wordsUnlikeMemory 44 = .ok (.iconst 0, 1) := by decide +kernel
theorem d_Mem_wordsUnlikeMemory_45 : decode b_Mem_wordsUnlikeMemory 45 = .ok (.iadd, 1) := by decide +kernel
theorem d_Mem_wordsUnlikeMemory_46 : decode b_Mem_wordsUnlikeMemory 46 = .ok (.istore_n 3, 1) := by decide +kernel
theorem d_Mem_wordsUnlikeMemory_47 : decode b_Mem_wordsUnlikeMemory 47 = .ok (.iinc 4 1, 3) := by decide +kernel
theorem d_Mem_wordsUnlikeMemory_50 : decode b_Mem_wordsUnlikeMemory 50 = .ok (.goto (-45), 3) := by decide +kernel
theorem d_Mem_wordsUnlikeMemory_53 : decode b_Mem_wordsUnlikeMemory 53 = .ok (.iload_n 3, 1) := by decide +kernel
theorem d_Mem_wordsUnlikeMemory_54 : decode b_Mem_wordsUnlikeMemory 54 = .ok (.ireturn, 1) := by decide +kernel
theorem d_Mem_readWord_0 : decode b_Mem_readWord 0 = .ok (.aload_n 0, 1) := by decide +kernel
theorem d_Mem_readWord_1 : decode b_Mem_readWord 1 = .ok (.getfield 29, 3) := by decide +kernel
theorem d_Mem_readWord_4 : decode b_Mem_readWord 4 = .ok (.aload_n 0, 1) := by decide +kernel
theorem d_Mem_readWord_5 : decode b_Mem_readWord 5 = .ok (.iload_n 1, 1) := by decide +kernel
theorem d_Mem_readWord_6 : decode b_Mem_readWord 6 = .ok (.bipush 8, 2) := by decide +kernel
theorem d_Mem_readWord_8 : decode b_Mem_readWord 8 = .ok (.idiv, 1) := by decide +kernel
theorem d_Mem_readWord_9 : decode b_Mem_readWord 9 = .ok (.invokevirtual 39, 3) := by decide +kernel
theorem d_Mem_readWord_12 : decode b_Mem_readWord 12 = .ok (.bipush 8, 2) := by decide +kernel
theorem d_Mem_readWord_14 : decode b_Mem_readWord 14 = .ok (.imul, 1) := by decide +kernel
theorem d_Mem_readWord_15 : decode b_Mem_readWord 15 = .ok (.iload_n 1, 1) := by decide +kernel
theorem d_Mem_readWord_16 : decode b_Mem_readWord 16 = .ok (.bipush 8, 2) := by decide +kernel
theorem d_Mem_readWord_18 : decode b_Mem_readWord 18 = .ok (.irem, 1) := by decide +kernel
theorem d_Mem_readWord_19 : decode b_Mem_readWord 19 = .ok (.iadd, 1) := by decide +kernel
theorem d_Mem_readWord_20 : decode b_Mem_readWord 20 = .ok (.iaload, 1) := by decide +kernel
theorem d_Mem_readWord_21 : decode b_Mem_readWord 21 = .ok (.ireturn, 1) := by decide +kernel
theorem d_Mem_slotOf_0 : decode b_Mem_slotOf 0 = .ok (.aload_n 0, 1) := by decide +kernel
theorem d_Mem_slotOf_1 : decode b_Mem_slotOf 1 = .ok (.getfield 25, 3) := by decide +kernel
theorem d_Mem_slotOf_4 : decode b_Mem_slotOf 4 = .ok (.iload_n 1, 1) := by decide +kernel
theorem d_Mem_slotOf_5 : decode b_Mem_slotOf 5 = .ok (.invokevirtual 46, 3) := by decide +kernel
theorem d_Mem_slotOf_8 : decode b_Mem_slotOf 8 = .ok (.istore_n 2, 1) := by decide +kernel
theorem d_Mem_slotOf_9 : decode b_Mem_slotOf 9 = .ok (.iload_n 2, 1) := by decide +kernel
theorem d_Mem_slotOf_10 : decode b_Mem_slotOf 10 = .ok (.iconst (-1), 1) := by decide +kernel
theorem d_Mem_slotOf_11 : decode b_Mem_slotOf 11 = .ok (.if_icmp .ne 139, 3) := by decide +kernel
theorem d_Mem_slotOf_14 : decode b_Mem_slotOf 14 = .ok (.aload_n 0, 1) := by decide +kernel
theorem d_Mem_slotOf_15 : decode b_Mem_slotOf 15 = .ok (.getfield 25, 3) := by decide +kernel
theorem d_Mem_slotOf_18 : decode b_Mem_slotOf 18 = .ok (.iload_n 1, 1) := by decide +kernel
theorem d_Mem_slotOf_19 : decode b_Mem_slotOf 19 = .ok (.invokevirtual 74, 3) := by decide +kernel
theorem d_Mem_slotOf_22 : decode b_Mem_slotOf 22 = .ok (.istore_n 2, 1) := by decide +kernel
theorem d_Mem_slotOf_23 : decode b_Mem_slotOf 23 = .ok (.aload_n 0, 1) := by decide +kernel
theorem d_Mem_slotOf_24 : decode b_Mem_slotOf 24 = .ok (.getfield 25, 3) := by decide +kernel
theorem d_Mem_slotOf_27 : decode b_Mem_slotOf 27 = .ok (.getfield 64, 3) := by decide +kernel
theorem d_Mem_slotOf_30 : decode b_Mem_slotOf 30 = .ok (.iload_n 2, 1) := by decide +kernel
theorem d_Mem_slotOf_31 : decode b_Mem_slotOf 31 = .ok (.iaload, 1) := by decide +kernel
theorem d_Mem_slotOf_32 : decode b_Mem_slotOf 32 = .ok (.istore_n 3, 1) := by decide +kernel
theorem d_Mem_slotOf_33 : decode b_Mem_slotOf 33 = .ok (.iload_n 3, 1) := by decide +kernel
theorem d_Mem_slotOf_34 : decode b_Mem_slotOf 34 = .ok (.iconst (-1), 1) := by decide +kernel
theorem d_Mem_slotOf_35 : decode b_Mem_slotOf 35 = .ok (.if_icmp .eq 55, 3) := by decide +kernel
theorem d_Mem_slotOf_38 : decode b_Mem_slotOf 38 = .ok (.aload_n 0, 1) := by decide +kernel
theorem d_Mem_slotOf_39 : decode b_Mem_slotOf 39 = .ok (.getfield 35, 3) := by decide +kernel
theorem d_Mem_slotOf_42 : decode b_Mem_slotOf 42 = .ok (.iload_n 2, 1) := by decide +kernel
theorem d_Mem_slotOf_43 : decode b_Mem_slotOf 43 = .ok (.baload, 1) := by decide +kernel
theorem d_Mem_slotOf_44 : decode b_Mem_slotOf 44 = .ok (.ifCond .eq 46, 3) := by decide +kernel
theorem d_Mem_slotOf_47 : decode b_Mem_slotOf 47 = .ok (.aload_n 0, 1) := by decide +kernel
theorem d_Mem_slotOf_48 : decode b_Mem_slotOf 48 = .ok (.getfield 29, 3) := by decide +kernel
theorem d_Mem_slotOf_51 : decode b_Mem_slotOf 51 = .ok (.iload_n 2, 1) := by decide +kernel
theorem d_Mem_slotOf_52 : decode b_Mem_slotOf 52 = .ok (.bipush 8, 2) := by decide +kernel
theorem d_Mem_slotOf_54 : decode b_Mem_slotOf 54 = .ok (.imul, 1) := by decide +kernel
theorem d_Mem_slotOf_55 : decode b_Mem_slotOf 55 = .ok (.aload_n 0, 1) := by decide +kernel
theorem d_Mem_slotOf_56 : decode b_Mem_slotOf 56 = .ok (.getfield 9, 3) := by decide +kernel
theorem d_Mem_slotOf_59 : decode b_Mem_slotOf 59 = .ok (.iload_n 3, 1) := by decide +kernel
theorem d_Mem_slotOf_60 : decode b_Mem_slotOf 60 = .ok (.bipush 8, 2) := by decide +kernel
theorem d_Mem_slotOf_62 : decode b_Mem_slotOf 62 = .ok (.imul, 1) := by decide +kernel
theorem d_Mem_slotOf_63 : decode b_Mem_slotOf 63 = .ok (.bipush 8, 2) := by decide +kernel
theorem d_Mem_slotOf_65 : decode b_Mem_slotOf 65 = .ok (.invokestatic 77, 3) := by decide +kernel
theorem d_Mem_slotOf_68 : decode b_Mem_slotOf 68 = .ok (.aload_n 0, 1) := by decide +kernel
theorem d_Mem_slotOf_69 : decode b_Mem_slotOf 69 = .ok (.getfield 18, 3) := by decide +kernel
theorem d_Mem_slotOf_72 : decode b_Mem_slotOf 72 = .ok (.iload_n 3, 1) := by decide +kernel
theorem d_Mem_slotOf_73 : decode b_Mem_slotOf 73 = .ok (.invokevirtual 83, 3) := by decide +kernel
theorem d_Mem_slotOf_76 : decode b_Mem_slotOf 76 = .ok (.aload_n 0, 1) := by decide +kernel
theorem d_Mem_slotOf_77 : decode b_Mem_slotOf 77 = .ok (.getfield 18, 3) := by decide +kernel
theorem d_Mem_slotOf_80 : decode b_Mem_slotOf 80 = .ok (.iload_n 3, 1) := by decide +kernel
theorem d_Mem_slotOf_81 : decode b_Mem_slotOf 81 = .ok (.aload_n 0, 1) := by decide +kernel
theorem d_Mem_slotOf_82 : decode b_Mem_slotOf 82 = .ok (.getfield 32, 3) := by decide +kernel
theorem d_Mem_slotOf_85 : decode b_Mem_slotOf 85 = .ok (.iload_n 2, 1) := by decide +kernel
theorem d_Mem_slotOf_86 : decode b_Mem_slotOf 86 = .ok (.iaload, 1) := by decide +kernel
theorem d_Mem_slotOf_87 : decode b_Mem_slotOf 87 = .ok (.invokevirtual 87, 3) := by decide +kernel
theorem d_Mem_slotOf_90 : decode b_Mem_slotOf 90 = .ok (.aload_n 0, 1) := by decide +kernel
theorem d_Mem_slotOf_91 : decode b_Mem_slotOf 91 = .ok (.getfield 9, 3) := by decide +kernel
theorem d_Mem_slotOf_94 : decode b_Mem_slotOf 94 = .ok (.iload_n 1, 1) := by decide +kernel
theorem d_Mem_slotOf_95 : decode b_Mem_slotOf 95 = .ok (.bipush 8, 2) := by decide +kernel
theorem d_Mem_slotOf_97 : decode b_Mem_slotOf 97 = .ok (.imul, 1) := by decide +kernel
theorem d_Mem_slotOf_98 : decode b_Mem_slotOf 98 = .ok (.aload_n 0, 1) := by decide +kernel
theorem d_Mem_slotOf_99 : decode b_Mem_slotOf 99 = .ok (.getfield 29, 3) := by decide +kernel
theorem d_Mem_slotOf_102 : decode b_Mem_slotOf 102 = .ok (.iload_n 2, 1) := by decide +kernel
theorem d_Mem_slotOf_103 : decode b_Mem_slotOf 103 = .ok (.bipush 8, 2) := by decide +kernel
theorem d_Mem_slotOf_105 : decode b_Mem_slotOf 105 = .ok (.imul, 1) := by decide +kernel
theorem d_Mem_slotOf_106 : decode b_Mem_slotOf 106 = .ok (.bipush 8, 2) := by decide +kernel
theorem d_Mem_slotOf_108 : decode b_Mem_slotOf 108 = .ok (.invokestatic 77, 3) := by decide +kernel
theorem d_Mem_slotOf_111 : decode b_Mem_slotOf 111 = .ok (.aload_n 0, 1) := by decide +kernel
theorem d_Mem_slotOf_112 : decode b_Mem_slotOf 112 = .ok (.getfield 18, 3) := by decide +kernel
theorem d_Mem_slotOf_115 : decode b_Mem_slotOf 115 = .ok (.iload_n 1, 1) := by decide +kernel
theorem d_Mem_slotOf_116 : decode b_Mem_slotOf 116 = .ok (.invokevirtual 83, 3) := by decide +kernel
theorem d_Mem_slotOf_119 : decode b_Mem_slotOf 119 = .ok (.aload_n 0, 1) := by decide +kernel
theorem d_Mem_slotOf_120 : decode b_Mem_slotOf 120 = .ok (.getfield 32, 3) := by decide +kernel
theorem d_Mem_slotOf_123 : decode b_Mem_slotOf 123 = .ok (.iload_n 2, 1) := by decide +kernel
theorem d_Mem_slotOf_124 : decode b_Mem_slotOf 124 = .ok (.aload_n 0, 1) := by decide +kernel
theorem d_Mem_slotOf_125 : decode b_Mem_slotOf 125 = .ok (.getfield 18, 3) := by decide +kernel
theorem d_Mem_slotOf_128 : decode b_Mem_slotOf 128 = .ok (.iload_n 1, 1) := by decide +kernel
theorem d_Mem_slotOf_129 : decode b_Mem_slotOf 129 = .ok (.invokevirtual 91, 3) := by decide +kernel
theorem d_Mem_slotOf_132 : decode b_Mem_slotOf 132 = .ok (.iastore, 1) := by decide +kernel
theorem d_Mem_slotOf_133 : decode b_Mem_slotOf 133 = .ok (.aload_n 0, 1) := by decide +kernel
theorem d_Mem_slotOf_134 : decode b_Mem_slotOf 134 = .ok (.getfield 35, 3) := by decide +kernel
theorem d_Mem_slotOf_137 : decode b_Mem_slotOf 137 = .ok (.iload_n 2, 1) := by decide +kernel
theorem d_Mem_slotOf_138 : decode b_Mem_slotOf 138 = .ok (.iconst 0, 1) := by decide +kernel
theorem d_Mem_slotOf_139 : decode b_Mem_slotOf 139 = .ok (.bastore, 1) := by decide +kernel
theorem d_Mem_slotOf_140 : decode b_Mem_slotOf 140 = .ok (.aload_n 0, 1) := by decide +kernel
theorem d_Mem_slotOf_141 : decode b_Mem_slotOf 141 = .ok (.getfield 25, 3) := by decide +kernel
theorem d_Mem_slotOf_144 : decode b_Mem_slotOf 144 = .ok (.getfield 64, 3) := by decide +kernel
theorem d_Mem_slotOf_147 : decode b_Mem_slotOf 147 = .ok (.iload_n 2, 1) := by decide +kernel
theorem d_Mem_slotOf_148 : decode b_Mem_slotOf 148 = .ok (.iload_n 1, 1) := by decide +kernel
theorem d_Mem_slotOf_149 : decode b_Mem_slotOf 149 = .ok (.iastore, 1) := by decide +kernel
theorem d_Mem_slotOf_150 : decode b_Mem_slotOf 150 = .ok (.aload_n 0, 1) := by decide +kernel
theorem d_Mem_slotOf_151 : decode b_Mem_slotOf 151 = .ok (.getfield 25, 3) := by decide +kernel
theorem d_Mem_slotOf_154 : decode b_Mem_slotOf 154 = .ok (.iload_n 2, 1) := by decide +kernel
theorem d_Mem_slotOf_155 : decode b_Mem_slotOf 155 = .ok (.invokevirtual 94, 3) := by decide +kernel
theorem d_Mem_slotOf_158 : decode b_Mem_slotOf 158 = .ok (.iload_n 2, 1) := by decide +kernel
theorem d_Mem_slotOf_159 : decode b_Mem_slotOf 159 = .ok (.ireturn, 1) := by decide +kernel
theorem d_Mem_writeWord_0 : decode b_Mem_writeWord 0 = .ok (.aload_n 0, 1) := by decide +kernel
theorem d_Mem_writeWord_1 : decode b_Mem_writeWord 1 = .ok (.iload_n 1, 1) := by decide +kernel
theorem d_Mem_writeWord_2 : decode b_Mem_writeWord 2 = .ok (.bipush 8, 2) := by decide +kernel
theorem d_Mem_writeWord_4 : decode b_Mem_writeWord 4 = .ok (.idiv, 1) := by decide +kernel
theorem d_Mem_writeWord_5 : decode b_Mem_writeWord 5 = .ok (.invokevirtual 39, 3) := by decide +kernel
theorem d_Mem_writeWord_8 : decode b_Mem_writeWord 8 = .ok (.istore_n 3, 1) := by decide +kernel
theorem d_Mem_writeWord_9 : decode b_Mem_writeWord 9 = .ok (.aload_n 0, 1) := by decide +kernel
theorem d_Mem_writeWord_10 : decode b_Mem_writeWord 10 = .ok (.getfield 29, 3) := by decide +kernel
theorem d_Mem_writeWord_13 : decode b_Mem_writeWord 13 = .ok (.iload_n 3, 1) := by decide +kernel
theorem d_Mem_writeWord_14 : decode b_Mem_writeWord 14 = .ok (.bipush 8, 2) := by decide +kernel
theorem d_Mem_writeWord_16 : decode b_Mem_writeWord 16 = .ok (.imul, 1) := by decide +kernel
theorem d_Mem_writeWord_17 : decode b_Mem_writeWord 17 = .ok (.iload_n 1, 1) := by decide +kernel
theorem d_Mem_writeWord_18 : decode b_Mem_writeWord 18 = .ok (.bipush 8, 2) := by decide +kernel
theorem d_Mem_writeWord_20 : decode b_Mem_writeWord 20 = .ok (.irem, 1) := by decide +kernel
theorem d_Mem_writeWord_21 : decode b_Mem_writeWord 21 = .ok (.iadd, 1) := by decide +kernel
theorem d_Mem_writeWord_22 : decode b_Mem_writeWord 22 = .ok (.iload_n 2, 1) := by decide +kernel
theorem d_Mem_writeWord_23 : decode b_Mem_writeWord 23 = .ok (.iastore, 1) := by decide +kernel
theorem d_Mem_writeWord_24 : decode b_Mem_writeWord 24 = .ok (.aload_n 0, 1) := by decide +kernel
theorem d_Mem_writeWord_25 : decode b_Mem_writeWord 25 = .ok (.getfield 32, 3) := by decide +kernel
theorem d_Mem_writeWord_28 : decode b_Mem_writeWord 28 = .ok (.iload_n 3, 1) := by decide +kernel
theorem d_Mem_writeWord_29 : decode b_Mem_writeWord 29 = .ok (.dup2, 1) := by decide +kernel
theorem d_Mem_writeWord_30 : decode b_Mem_writeWord 30 = .ok (.iaload, 1) := by decide +kernel
theorem d_Mem_writeWord_31 : decode b_Mem_writeWord 31 = .ok (.iload_n 1, 1) := by decide +kernel
theorem d_Mem_writeWord_32 : decode b_Mem_writeWord 32 = .ok (.invokestatic 43, 3) := by decide +kernel
theorem d_Mem_writeWord_35 : decode b_Mem_writeWord 35 = .ok (.iconst (-1), 1) := by decide +kernel
theorem d_Mem_writeWord_36 : decode b_Mem_writeWord 36 = .ok (.ixor, 1) := by decide +kernel
theorem d_Mem_writeWord_37 : decode b_Mem_writeWord 37 = .ok (.iand, 1) := by decide +kernel
theorem d_Mem_writeWord_38 : decode b_Mem_writeWord 38 = .ok (.iastore, 1) := by decide +kernel
theorem d_Mem_writeWord_39 : decode b_Mem_writeWord 39 = .ok (.aload_n 0, 1) := by decide +kernel
theorem d_Mem_writeWord_40 : decode b_Mem_writeWord 40 = .ok (.getfield 35, 3) := by decide +kernel
theorem d_Mem_writeWord_43 : decode b_Mem_writeWord 43 = .ok (.iload_n 3, 1) := by decide +kernel
theorem d_Mem_writeWord_44 : decode b_Mem_writeWord 44 = .ok (.iconst 1, 1) := by decide +kernel
theorem d_Mem_writeWord_45 : decode b_Mem_writeWord 45 = .ok (.bastore, 1) := by decide +kernel
theorem d_Mem_writeWord_46 : decode b_Mem_writeWord 46 = .ok (.return_, 1) := by decide +kernel
theorem d_Pip_squash_0 : decode b_Pip_squash 0 = .ok (.aload_n 0, 1) := by decide +kernel
theorem d_Pip_squash_1 : decode b_Pip_squash 1 = .ok (.getfield 18, 3) := by decide +kernel
theorem d_Pip_squash_4 : decode b_Pip_squash 4 = .ok (.getfield 29, 3) := by decide +kernel
theorem d_Pip_squash_7 : decode b_Pip_squash 7 = .ok (.iload_n 1, 1) := by decide +kernel
theorem d_Pip_squash_8 : decode b_Pip_squash 8 = .ok (.if_icmp .eq 11, 3) := by decide +kernel
theorem d_Pip_squash_11 : decode b_Pip_squash 11 = .ok (.aload_n 0, 1) := by decide +kernel
theorem d_Pip_squash_12 : decode b_Pip_squash 12 = .ok (.getfield 21, 3) := by decide +kernel
theorem d_Pip_squash_15 : decode b_Pip_squash 15 = .ok (.iload_n 1, 1) := by decide +kernel
theorem d_Pip_squash_16 : decode b_Pip_squash 16 = .ok (.if_icmp .ne 16, 3) := by decide +kernel
theorem d_Pip_squash_19 : decode b_Pip_squash 19 = .ok (.aload_n 0, 1) := by decide +kernel
theorem d_Pip_squash_20 : decode b_Pip_squash 20 = .ok (.getfield 18, 3) := by decide +kernel
theorem d_Pip_squash_23 : decode b_Pip_squash 23 = .ok (.iconst (-1), 1) := by decide +kernel
theorem d_Pip_squash_24 : decode b_Pip_squash 24 = .ok (.putfield 29, 3) := by decide +kernel
theorem d_Pip_squash_27 : decode b_Pip_squash 27 = .ok (.aload_n 0, 1) := by decide +kernel
theorem d_Pip_squash_28 : decode b_Pip_squash 28 = .ok (.iconst (-1), 1) := by decide +kernel
theorem d_Pip_squash_29 : decode b_Pip_squash 29 = .ok (.putfield 21, 3) := by decide +kernel
theorem d_Pip_squash_32 : decode b_Pip_squash 32 = .ok (.return_, 1) := by decide +kernel
theorem d_Sta_pccFault_0 : decode b_Sta_pccFault 0 = .ok (.aload_n 0, 1) := by decide +kernel
theorem d_Sta_pccFault_1 : decode b_Sta_pccFault 1 = .ok (.bipush 32, 2) := by decide +kernel
theorem d_Sta_pccFault_3 : decode b_Sta_pccFault 3 = .ok (.iconst 1, 1) := by decide +kernel
theorem d_Sta_pccFault_4 : decode b_Sta_pccFault 4 = .ok (.bipush 17, 2) := by decide +kernel
theorem d_Sta_pccFault_6 : decode b_Sta_pccFault 6 = .ok (.invokevirtual 54, 3) := by decide +kernel
theorem d_Sta_pccFault_9 : decode b_Sta_pccFault 9 = .ok (.istore_n 1, 1) := by decide +kernel
theorem d_Sta_pccFault_10 : decode b_Sta_pccFault 10 = .ok (.iload_n 1, 1) := by decide +kernel
theorem d_Sta_pccFault_11 : decode b_Sta_pccFault 11 = .ok (.iconst (-1), 1) := by decide +kernel
theorem d_Sta_pccFault_12 : decode b_Sta_pccFault 12 = .ok (.if_icmp .eq 7, 3) := by decide +kernel
theorem d_Sta_pccFault_15 : decode b_Sta_pccFault 15 = .ok (.iload_n 1, 1) := by decide +kernel
theorem d_Sta_pccFault_16 : decode b_Sta_pccFault 16 = .ok (.goto 18, 3) := by decide +kernel
theorem d_Sta_pccFault_19 : decode b_Sta_pccFault 19 = .ok (.aload_n 0, 1) := by decide +kernel
theorem d_Sta_pccFault_20 : decode b_Sta_pccFault 20 = .ok (.bipush 32, 2) := by decide +kernel
theorem d_Sta_pccFault_22 : decode b_Sta_pccFault 22 = .ok (.aload_n 0, 1) := by decide +kernel
theorem d_Sta_pccFault_23 : decode b_Sta_pccFault 23 = .ok (.getfield 38, 3) := by decide +kernel
theorem d_Sta_pccFault_26 : decode b_Sta_pccFault 26 = .ok (.getfield 58, 3) := by decide +kernel
theorem d_Sta_pccFault_29 : decode b_Sta_pccFault 29 = .ok (.iconst 4, 1) := by decide +kernel
theorem d_Sta_pccFault_30 : decode b_Sta_pccFault 30 = .ok (.iconst 0, 1) := by decide +kernel
theorem d_Sta_pccFault_31 : decode b_Sta_pccFault 31 = .ok (.invokevirtual 61, 3) := by decide +kernel
theorem d_Sta_pccFault_34 : decode b_Sta_pccFault 34 = .ok (.ireturn, 1) := by decide +kernel
theorem d_Sta_authorityFault_0 : decode b_Sta_authorityFault 0 = .ok (.aload_n 0, 1) := by decide +kernel
theorem d_Sta_authorityFault_1 : decode b_Sta_authorityFault 1 = .ok (.getfield 11, 3) := by decide +kernel
theorem d_Sta_authorityFault_4 : decode b_Sta_authorityFault 4 = .ok (.iload_n 1, 1) := by decide +kernel
theorem d_Sta_authorityFault_5 : decode b_Sta_authorityFault 5 = .ok (.aaload, 1) := by decide +kernel
theorem d_Sta_authorityFault_6 : decode b_Sta_authorityFault 6 = .ok (.astore 4, 2) := by decide +kernel
theorem d_Sta_authorityFault_8 : decode b_Sta_authorityFault 8 = .ok (.aload 4, 2) := by decide +kernel
theorem d_Sta_authorityFault_10 : decode b_Sta_authorityFault 10 = .ok (.getfield 65, 3) := by decide +kernel
theorem d_Sta_authorityFault_13 : decode b_Sta_authorityFault 13 = .ok (.ifCond .ne 10, 3) := by decide +kernel
theorem d_Sta_authorityFault_16 : decode b_Sta_authorityFault 16 = .ok (.aload_n 0, 1) := by decide +kernel
theorem d_Sta_authorityFault_17 : decode b_Sta_authorityFault 17 = .ok (.iload_n 1, 1) := by decide +kernel
theorem d_Sta_authorityFault_18 : decode b_Sta_authorityFault 18 = .ok (.iconst 2, 1) := by decide +kernel
theorem d_Sta_authorityFault_19 : decode b_Sta_authorityFault 19 = .ok (.invokevirtual 69, 3) := by decide +kernel
theorem d_Sta_authorityFault_22 : decode b_Sta_authorityFault 22 = .ok (.ireturn, 1) := by decide +kernel
theorem d_Sta_authorityFault_23 : decode b_Sta_authorityFault 23 = .ok (.aload 4, 2) := by decide +kernel
theorem d_Sta_authorityFault_25 : decode b_Sta_authorityFault 25 = .ok (.invokevirtual 72, 3) := by decide +kernel
theorem d_Sta_authorityFault_28 : decode b_Sta_authorityFault 28 = .ok (.ifCond .ne 10, 3) := by decide +kernel
theorem d_Sta_authorityFault_31 : decode b_Sta_authorityFault 31 = .ok (.aload_n 0, 1) := by decide +kernel
theorem d_Sta_authorityFault_32 : decode b_Sta_authorityFault 32 = .ok (.iload_n 1, 1) := by decide +kernel
theorem d_Sta_authorityFault_33 : decode b_Sta_authorityFault 33 = .ok (.iconst 3, 1) := by decide +kernel
theorem d_Sta_authorityFault_34 : decode b_Sta_authorityFault 34 = .ok (.invokevirtual 69, 3) := by decide +kernel
theorem d_Sta_authorityFault_37 : decode b_Sta_authorityFault 37 = .ok (.ireturn, 1) := by decide +kernel
theorem d_Sta_authorityFault_38 : decode b_Sta_authorityFault 38 = .ok (.aload 4, 2) := by decide +kernel
theorem d_Sta_authorityFault_40 : decode b_Sta_authorityFault 40 = .ok (.iload_n 2, 1) := by decide +kernel
theorem d_Sta_authorityFault_41 : decode b_Sta_authorityFault 41 = .ok (.invokevirtual 76, 3) := by decide +kernel
theorem d_Sta_authorityFault_44 : decode b_Sta_authorityFault 44 = .ok (.ifCond .eq 7, 3) := by decide +kernel
theorem d_Sta_authorityFault_47 : decode b_Sta_authorityFault 47 = .ok (.iconst (-1), 1) := by decide +kernel
theorem d_Sta_authorityFault_48 : decode b_Sta_authorityFault 48 = .ok (.goto 9, 3) := by decide +kernel
theorem d_Sta_authorityFault_51 : decode b_Sta_authorityFault 51 = .ok (.aload_n 0, 1) := by decide +kernel
theorem d_Sta_authorityFault_52 : decode b_Sta_authorityFault 52 = .ok (.iload_n 1, 1) := by decide +kernel
theorem d_Sta_authorityFault_53 : decode b_Sta_authorityFault 53 = .ok (.iload_n 3, 1) := by decide +kernel
theorem d_Sta_authorityFault_54 : decode b_Sta_authorityFault 54 = .ok (.invokevirtual 69, 3) := by decide +kernel
theorem d_Sta_authorityFault_57 : decode b_Sta_authorityFault 57 = .ok (.ireturn, 1) := by decide +kernel
theorem d_Sta_capabilityFault_0 : decode b_Sta_capabilityFault 0 = .ok (.aload_n 0, 1) := by decide +kernel
theorem d_Sta_capabilityFault_1 : decode b_Sta_capabilityFault 1 = .ok (.bipush 28, 2) := by decide +kernel
theorem d_Sta_capabilityFault_3 : decode b_Sta_capabilityFault 3 = .ok (.bipush 32, 2) := by decide +kernel
theorem d_Sta_capabilityFault_5 : decode b_Sta_capabilityFault 5 = .ok (.iload_n 1, 1) := by decide +kernel
theorem d_Sta_capabilityFault_6 : decode b_Sta_capabilityFault 6 = .ok (.imul, 1) := by decide +kernel
theorem d_Sta_capabilityFault_7 : decode b_Sta_capabilityFault 7 = .ok (.iload_n 2, 1) := by decide +kernel
theorem d_Sta_capabilityFault_8 : decode b_Sta_capabilityFault 8 = .ok (.iadd, 1) := by decide +kernel
theorem d_Sta_capabilityFault_9 : decode b_Sta_capabilityFault 9 = .ok (.invokevirtual 45, 3) := by decide +kernel
theorem d_Sta_capabilityFault_12 : decode b_Sta_capabilityFault 12 = .ok (.ireturn, 1) := by decide +kernel
theorem d_Sta_fault_0 : decode b_Sta_fault 0 = .ok (.aload_n 0, 1) := by decide +kernel
theorem d_Sta_fault_1 : decode b_Sta_fault 1 = .ok (.iload_n 2, 1) := by decide +kernel
theorem d_Sta_fault_2 : decode b_Sta_fault 2 = .ok (.putfield 41, 3) := by decide +kernel
theorem d_Sta_fault_5 : decode b_Sta_fault 5 = .ok (.iload_n 1, 1) := by decide +kernel
theorem d_Sta_fault_6 : decode b_Sta_fault 6 = .ok (.ireturn, 1) := by decide +kernel
theorem d_Sta_placeFault_0 : decode b_Sta_placeFault 0 = .ok (.aload_n 0, 1) := by decide +kernel
theorem d_Sta_placeFault_1 : decode b_Sta_placeFault 1 = .ok (.getfield 11, 3) := by decide +kernel
theorem d_Sta_placeFault_4 : decode b_Sta_placeFault 4 = .ok (.iload_n 1, 1) := by decide +kernel
theorem d_Sta_placeFault_5 : decode b_Sta_placeFault 5 = .ok (.aaload, 1) := by decide +kernel
theorem d_Sta_placeFault_6 : decode b_Sta_placeFault 6 = .ok (.iload_n 2, 1) := by decide +kernel
theorem d_Sta_placeFault_7 : decode b_Sta_placeFault 7 = .ok (.iload_n 3, 1) := by decide +kernel
theorem d_Sta_placeFault_8 : decode b_Sta_placeFault 8 = .ok (.i2l, 1) := by decide +kernel
theorem d_Sta_placeFault_9 : decode b_Sta_placeFault 9 = .ok (.invokevirtual 80, 3) := by decide +kernel
theorem d_Sta_placeFault_12 : decode b_Sta_placeFault 12 = .ok (.ifCond .ne 10, 3) := by decide +kernel
theorem d_Sta_placeFault_15 : decode b_Sta_placeFault 15 = .ok (.aload_n 0, 1) := by decide +kernel
theorem d_Sta_placeFault_16 : decode b_Sta_placeFault 16 = .ok (.iload_n 1, 1) := by decide +kernel
theorem d_Sta_placeFault_17 : decode b_Sta_placeFault 17 = .ok (.iconst 1, 1) := by decide +kernel
theorem d_Sta_placeFault_18 : decode b_Sta_placeFault 18 = .ok (.invokevirtual 69, 3) := by decide +kernel
theorem d_Sta_placeFault_21 : decode b_Sta_placeFault 21 = .ok (.ireturn, 1) := by decide +kernel
theorem d_Sta_placeFault_22 : decode b_Sta_placeFault 22 = .ok (.iload_n 2, 1) := by decide +kernel
theorem d_Sta_placeFault_23 : decode b_Sta_placeFault 23 = .ok (.iload_n 3, 1) := by decide +kernel
theorem d_Sta_placeFault_24 : decode b_Sta_placeFault 24 = .ok (.iconst 1, 1) := by decide +kernel
theorem d_Sta_placeFault_25 : decode b_Sta_placeFault 25 = .ok (.isub, 1) := by decide +kernel
theorem d_Sta_placeFault_26 : decode b_Sta_placeFault 26 = .ok (.iand, 1) := by decide +kernel
theorem d_Sta_placeFault_27 : decode b_Sta_placeFault 27 = .ok (.ifCond .eq 11, 3) := by decide +kernel
theorem d_Sta_placeFault_30 : decode b_Sta_placeFault 30 = .ok (.aload_n 0, 1) := by decide +kernel
theorem d_Sta_placeFault_31 : decode b_Sta_placeFault 31 = .ok (.iload 4, 2) := by decide +kernel
theorem d_Sta_placeFault_33 : decode b_Sta_placeFault 33 = .ok (.iload_n 2, 1) := by decide +kernel
theorem d_Sta_placeFault_34 : decode b_Sta_placeFault 34 = .ok (.invokevirtual 45, 3) := by decide +kernel
theorem d_Sta_placeFault_37 : decode b_Sta_placeFault 37 = .ok (.ireturn, 1) := by decide +kernel
theorem d_Sta_placeFault_38 : decode b_Sta_placeFault 38 = .ok (.iload_n 2, 1) := by decide +kernel
theorem d_Sta_placeFault_39 : decode b_Sta_placeFault 39 = .ok (.ifCond .lt 14, 3) := by decide +kernel
theorem d_Sta_placeFault_42 : decode b_Sta_placeFault 42 = .ok (.iload_n 2, 1) := by decide +kernel
theorem d_Sta_placeFault_43 : decode b_Sta_placeFault 43 = .ok (.sipush 16384, 3) := by decide +kernel
theorem d_Sta_placeFault_46 : decode b_Sta_placeFault 46 = .ok (.if_icmp .ge 7, 3) := by decide +kernel
theorem d_Sta_placeFault_49 : decode b_Sta_placeFault 49 = .ok (.iconst (-1), 1) := by decide +kernel
theorem d_Sta_placeFault_50 : decode b_Sta_placeFault 50 = .ok (.goto 12, 3) := by decide +kernel
theorem d_Sta_placeFault_53 : decode b_Sta_placeFault 53 = .ok (.aload_n 0, 1) := by decide +kernel
theorem d_Sta_placeFault_54 : decode b_Sta_placeFault 54 = .ok (.iload 4, 2) := by decide +kernel
theorem d_Sta_placeFault_56 : decode b_Sta_placeFault 56 = .ok (.iconst 1, 1) := by decide +kernel
theorem d_Sta_placeFault_57 : decode b_Sta_placeFault 57 = .ok (.iadd, 1) := by decide +kernel
theorem d_Sta_placeFault_58 : decode b_Sta_placeFault 58 = .ok (.iload_n 2, 1) := by decide +kernel
theorem d_Sta_placeFault_59 : decode b_Sta_placeFault 59 = .ok (.invokevirtual 45, 3) := by decide +kernel
theorem d_Sta_placeFault_62 : decode b_Sta_placeFault 62 = .ok (.ireturn, 1) := by decide +kernel
theorem d_Pip_advance_0 : decode b_Pip_advance 0 = .ok (.aload_n 0, 1) := by decide +kernel
theorem d_Pip_advance_1 : decode b_Pip_advance 1 = .ok (.getfield 18, 3) := by decide +kernel
theorem d_Pip_advance_4 : decode b_Pip_advance 4 = .ok (.getfield 29, 3) := by decide +kernel
theorem d_Pip_advance_7 : decode b_Pip_advance 7 = .ok (.iload_n 1, 1) := by decide +kernel
theorem d_Pip_advance_8 : decode b_Pip_advance 8 = .ok (.if_icmp .eq 26, 3) := by decide +kernel
theorem d_Pip_advance_11 : decode b_Pip_advance 11 = .ok (.aload_n 0, 1) := by decide +kernel
theorem d_Pip_advance_12 : decode b_Pip_advance 12 = .ok (.getfield 18, 3) := by decide +kernel
theorem d_Pip_advance_15 : decode b_Pip_advance 15 = .ok (.iload_n 1, 1) := by decide +kernel
theorem d_Pip_advance_16 : decode b_Pip_advance 16 = .ok (.aload_n 0, 1) := by decide +kernel
theorem d_Pip_advance_17 : decode b_Pip_advance 17 = .ok (.getfield 25, 3) := by decide +kernel
theorem d_Pip_advance_20 : decode b_Pip_advance 20 = .ok (.iload_n 1, 1) := by decide +kernel
theorem d_Pip_advance_21 : decode b_Pip_advance 21 = .ok (.invokevirtual 32, 3) := by decide +kernel
theorem d_Pip_advance_24 : decode b_Pip_advance 24 = .ok (.invokevirtual 38, 3) := by decide +kernel
theorem d_Pip_advance_27 : decode b_Pip_advance 27 = .ok (.aload_n 0, 1) := by decide +kernel
theorem d_Pip_advance_28 : decode b_Pip_advance 28 = .ok (.iload_n 1, 1) := by decide +kernel
theorem d_Pip_advance_29 : decode b_Pip_advance 29 = .ok (.iconst 1, 1) := by decide +kernel
theorem d_Pip_advance_30 : decode b_Pip_advance 30 = .ok (.iadd, 1) := by decide +kernel
theorem d_Pip_advance_31 : decode b_Pip_advance 31 = .ok (.invokevirtual 42, 3) := by decide +kernel
theorem d_Pip_advance_34 : decode b_Pip_advance 34 = .ok (.aload_n 0, 1) := by decide +kernel
theorem d_Pip_advance_35 : decode b_Pip_advance 35 = .ok (.getfield 12, 3) := by decide +kernel
theorem d_Pip_advance_38 : decode b_Pip_advance 38 = .ok (.astore_n 2, 1) := by decide +kernel
theorem d_Pip_advance_39 : decode b_Pip_advance 39 = .ok (.aload_n 0, 1) := by decide +kernel
theorem d_Pip_advance_40 : decode b_Pip_advance 40 = .ok (.aload_n 0, 1) := by decide +kernel
theorem d_Pip_advance_41 : decode b_Pip_advance 41 = .ok (.getfield 18, 3) := by decide +kernel
theorem d_Pip_advance_44 : decode b_Pip_advance 44 = .ok (.putfield 12, 3) := by decide +kernel
theorem d_Pip_advance_47 : decode b_Pip_advance 47 = .ok (.aload_n 0, 1) := by decide +kernel
theorem d_Pip_advance_48 : decode b_Pip_advance 48 = .ok (.aload_n 2, 1) := by decide +kernel
theorem d_Pip_advance_49 : decode b_Pip_advance 49 = .ok (.putfield 18, 3) := by decide +kernel
theorem d_Pip_advance_52 : decode b_Pip_advance 52 = .ok (.aload_n 0, 1) := by decide +kernel
theorem d_Pip_advance_53 : decode b_Pip_advance 53 = .ok (.getfield 18, 3) := by decide +kernel
theorem d_Pip_advance_56 : decode b_Pip_advance 56 = .ok (.aload_n 0, 1) := by decide +kernel
theorem d_Pip_advance_57 : decode b_Pip_advance 57 = .ok (.getfield 21, 3) := by decide +kernel
theorem d_Pip_advance_60 : decode b_Pip_advance 60 = .ok (.aload_n 0, 1) := by decide +kernel
theorem d_Pip_advance_61 : decode b_Pip_advance 61 = .ok (.getfield 46, 3) := by decide +kernel
theorem d_Pip_advance_64 : decode b_Pip_advance 64 = .ok (.invokevirtual 38, 3) := by decide +kernel
theorem d_Pip_advance_67 : decode b_Pip_advance 67 = .ok (.aload_n 0, 1) := by decide +kernel
theorem d_Pip_advance_68 : decode b_Pip_advance 68 = .ok (.iload_n 1, 1) := by decide +kernel
theorem d_Pip_advance_69 : decode b_Pip_advance 69 = .ok (.iconst 2, 1) := by decide +kernel
theorem d_Pip_advance_70 : decode b_Pip_advance 70 = .ok (.iadd, 1) := by decide +kernel
theorem d_Pip_advance_71 : decode b_Pip_advance 71 = .ok (.invokevirtual 42, 3) := by decide +kernel
theorem d_Pip_advance_74 : decode b_Pip_advance 74 = .ok (.aload_n 0, 1) := by decide +kernel
theorem d_Pip_advance_75 : decode b_Pip_advance 75 = .ok (.getfield 12, 3) := by decide +kernel
theorem d_Pip_advance_78 : decode b_Pip_advance 78 = .ok (.areturn, 1) := by decide +kernel
theorem d_Ins_decode_0 : decode b_Ins_decode 0 = .ok (.aload_n 0, 1) := by decide +kernel
theorem d_Ins_decode_1 : decode b_Ins_decode 1 = .ok (.iload_n 1, 1) := by decide +kernel
theorem d_Ins_decode_2 : decode b_Ins_decode 2 = .ok (.putfield 9, 3) := by decide +kernel
theorem d_Ins_decode_5 : decode b_Ins_decode 5 = .ok (.aload_n 0, 1) := by decide +kernel
theorem d_Ins_decode_6 : decode b_Ins_decode 6 = .ok (.iload_n 2, 1) := by decide +kernel
theorem d_Ins_decode_7 : decode b_Ins_decode 7 = .ok (.putfield 15, 3) := by decide +kernel
theorem d_Ins_decode_10 : decode b_Ins_decode 10 = .ok (.aload_n 0, 1) := by decide +kernel
theorem d_Ins_decode_11 : decode b_Ins_decode 11 = .ok (.aload_n 0, 1) := by decide +kernel
theorem d_Ins_decode_12 : decode b_Ins_decode 12 = .ok (.getfield 15, 3) := by decide +kernel
theorem d_Ins_decode_15 : decode b_Ins_decode 15 = .ok (.bipush 127, 2) := by decide +kernel
theorem d_Ins_decode_17 : decode b_Ins_decode 17 = .ok (.iand, 1) := by decide +kernel
theorem d_Ins_decode_18 : decode b_Ins_decode 18 = .ok (.putfield 18, 3) := by decide +kernel
theorem d_Ins_decode_21 : decode b_Ins_decode 21 = .ok (.aload_n 0, 1) := by decide +kernel
theorem d_Ins_decode_22 : decode b_Ins_decode 22 = .ok (.aload_n 0, 1) := by decide +kernel
theorem d_Ins_decode_23 : decode b_Ins_decode 23 = .ok (.getfield 15, 3) := by decide +kernel
theorem d_Ins_decode_26 : decode b_Ins_decode 26 = .ok (.bipush 7, 2) := by decide +kernel
theorem d_Ins_decode_28 : decode b_Ins_decode 28 = .ok (.iushr, 1) := by decide +kernel
theorem d_Ins_decode_29 : decode b_Ins_decode 29 = .ok (.bipush 31, 2) := by decide +kernel
theorem d_Ins_decode_31 : decode b_Ins_decode 31 = .ok (.iand, 1) := by decide +kernel
theorem d_Ins_decode_32 : decode b_Ins_decode 32 = .ok (.putfield 21, 3) := by decide +kernel
theorem d_Ins_decode_35 : decode b_Ins_decode 35 = .ok (.aload_n 0, 1) := by decide +kernel
theorem d_Ins_decode_36 : decode b_Ins_decode 36 = .ok (.aload_n 0, 1) := by decide +kernel
theorem d_Ins_decode_37 : decode b_Ins_decode 37 = .ok (.getfield 15, 3) := by decide +kernel
theorem d_Ins_decode_40 : decode b_Ins_decode 40 = .ok (.bipush 12, 2) := by decide +kernel
theorem d_Ins_decode_42 : decode b_Ins_decode 42 = .ok (.iushr, 1) := by decide +kernel
theorem d_Ins_decode_43 : decode b_Ins_decode 43 = .ok (.bipush 7, 2) := by decide +kernel
theorem d_Ins_decode_45 : decode b_Ins_decode 45 = .ok (.iand, 1) := by decide +kernel
theorem d_Ins_decode_46 : decode b_Ins_decode 46 = .ok (.putfield 24, 3) := by decide +kernel
theorem d_Ins_decode_49 : decode b_Ins_decode 49 = .ok (.aload_n 0, 1) := by decide +kernel
theorem d_Ins_decode_50 : decode b_Ins_decode 50 = .ok (.aload_n 0, 1) := by decide +kernel
theorem d_Ins_decode_51 : decode b_Ins_decode 51 = .ok (.getfield 15, 3) := by decide +kernel
theorem d_Ins_decode_54 : decode b_Ins_decode 54 = .ok (.bipush 15, 2) := by decide +kernel
theorem d_Ins_decode_56 : decode b_Ins_decode 56 = .ok (.iushr, 1) := by decide +kernel
theorem d_Ins_decode_57 : decode b_Ins_decode 57 = .ok (.bipush 31, 2) := by decide +kernel
theorem d_Ins_decode_59 : decode b_Ins_decode 59 = .ok (.iand, 1) := by decide +kernel
theorem d_Ins_decode_60 : decode b_Ins_decode 60 = .ok (.putfield 27, 3) := by decide +kernel
theorem d_Ins_decode_63 : decode b_Ins_decode 63 = .ok (.aload_n 0, 1) := by decide +kernel
theorem d_Ins_decode_64 : decode b_Ins_decode 64 = .ok (.aload_n 0, 1) := by decide +kernel
theorem d_Ins_decode_65 : decode b_Ins_decode 65 = .ok (.getfield 15, 3) := by decide +kernel
theorem d_Ins_decode_68 : decode b_Ins_decode 68 = .ok (.bipush 20, 2) := by decide +kernel
theorem d_Ins_decode_70 : decode b_Ins_decode 70 = .ok (.iushr, 1) := by decide +kernel
theorem d_Ins_decode_71 : decode b_Ins_decode 71 = .ok (.bipush 31, 2) := by decide +kernel
theorem d_Ins_decode_73 : decode b_Ins_decode 73 = .ok (.iand, 1) := by decide +kernel
theorem d_Ins_decode_74 : decode b_Ins_decode 74 = .ok (.putfield 30, 3) := by decide +kernel
theorem d_Ins_decode_77 : decode b_Ins_decode 77 = .ok (.aload_n 0, 1) := by decide +kernel
theorem d_Ins_decode_78 : decode b_Ins_decode 78 = .ok (.aload_n 0, 1) := by decide +kernel
theorem d_Ins_decode_79 : decode b_Ins_decode 79 = .ok (.getfield 15, 3) := by decide +kernel
theorem d_Ins_decode_82 : decode b_Ins_decode 82 = .ok (.bipush 25, 2) := by decide +kernel
theorem d_Ins_decode_84 : decode b_Ins_decode 84 = .ok (.iushr, 1) := by decide +kernel
theorem d_Ins_decode_85 : decode b_Ins_decode 85 = .ok (.putfield 33, 3) := by decide +kernel
theorem d_Ins_decode_88 : decode b_Ins_decode 88 = .ok (.aload_n 0, 1) := by decide +kernel
theorem d_Ins_decode_89 : decode b_Ins_decode 89 = .ok (.aload_n 0, 1) := by decide +kernel
theorem d_Ins_decode_90 : decode b_Ins_decode 90 = .ok (.invokevirtual 36, 3) := by decide +kernel
theorem d_Ins_decode_93 : decode b_Ins_decode 93 = .ok (.putfield 40, 3) := by decide +kernel
theorem d_Ins_decode_96 : decode b_Ins_decode 96 = .ok (.return_, 1) := by decide +kernel
theorem d_Ins_immediateOf_0 : decode b_Ins_immediateOf 0 = .ok (.aload_n 0, 1) := by decide +kernel
theorem d_Ins_immediateOf_1 : decode b_Ins_immediateOf 1 = .ok (.getfield 18, 3) := by decide +kernel
theorem d_Ins_immediateOf_4 : decode b_Ins_immediateOf 4 = .ok (.lookupswitch 161 #[(23, 52), (35, 146), (55, 52), (99, 104), (111, 61)], 52) := by decide +kernel
theorem d_Ins_immediateOf_56 : decode b_Ins_immediateOf 56 = .ok (.aload_n 0, 1) := by decide +kernel
theorem d_Ins_immediateOf_57 : decode b_Ins_immediateOf 57 = .ok (.getfield 15, 3) := by decide +kernel
theorem d_Ins_immediateOf_60 : decode b_Ins_immediateOf 60 = .ok (.sipush (-4096), 3) := by decide +kernel
theorem d_Ins_immediateOf_63 : decode b_Ins_immediateOf 63 = .ok (.iand, 1) := by decide +kernel
theorem d_Ins_immediateOf_64 : decode b_Ins_immediateOf 64 = .ok (.ireturn, 1) := by decide +kernel
theorem d_Ins_immediateOf_65 : decode b_Ins_immediateOf 65 = .ok (.aload_n 0, 1) := by decide +kernel
theorem d_Ins_immediateOf_66 : decode b_Ins_immediateOf 66 = .ok (.getfield 15, 3) := by decide +kernel
theorem d_Ins_immediateOf_69 : decode b_Ins_immediateOf 69 = .ok (.bipush 31, 2) := by decide +kernel
theorem d_Ins_immediateOf_71 : decode b_Ins_immediateOf 71 = .ok (.ishr, 1) := by decide +kernel
theorem d_Ins_immediateOf_72 : decode b_Ins_immediateOf 72 = .ok (.bipush 20, 2) := by decide +kernel
theorem d_Ins_immediateOf_74 : decode b_Ins_immediateOf 74 = .ok (.ishl, 1) := by decide +kernel
theorem d_Ins_immediateOf_75 : decode b_Ins_immediateOf 75 = .ok (.aload_n 0, 1) := by decide +kernel
theorem d_Ins_immediateOf_76 : decode b_Ins_immediateOf 76 = .ok (.getfield 15, 3) := by decide +kernel
theorem d_Ins_immediateOf_79 : decode b_Ins_immediateOf 79 = .ok (.ldc 43, 2) := by decide +kernel
theorem d_Ins_immediateOf_81 : decode b_Ins_immediateOf 81 = .ok (.iand, 1) := by decide +kernel
theorem d_Ins_immediateOf_82 : decode b_Ins_immediateOf 82 = .ok (.ior, 1) := by decide +kernel
theorem d_Ins_immediateOf_83 : decode b_Ins_immediateOf 83 = .ok (.aload_n 0, 1) := by decide +kernel
theorem d_Ins_immediateOf_84 : decode b_Ins_immediateOf 84 = .ok (.getfield 15, 3) := by decide +kernel
theorem d_Ins_immediateOf_87 : decode b_Ins_immediateOf 87 = .ok (.bipush 9, 2) := by decide +kernel
theorem d_Ins_immediateOf_89 : decode b_Ins_immediateOf 89 = .ok (.iushr, 1) := by decide +kernel
theorem d_Ins_immediateOf_90 : decode b_Ins_immediateOf 90 = .ok (.sipush 2048, 3) := by decide +kernel
theorem d_Ins_immediateOf_93 : decode b_Ins_immediateOf 93 = .ok (.iand, 1) := by decide +kernel
theorem d_Ins_immediateOf_94 : decode b_Ins_immediateOf 94 = .ok (.ior, 1) := by decide +kernel
theorem d_Ins_immediateOf_95 : decode b_Ins_immediateOf 95 = .ok (.aload_n 0, 1) := by decide +kernel
theorem d_Ins_immediateOf_96 : decode b_Ins_immediateOf 96 = .ok (.getfield 15, 3) := by decide +kernel
theorem d_Ins_immediateOf_99 : decode b_Ins_immediateOf 99 = .ok (.bipush 20, 2) := by decide +kernel
theorem d_Ins_immediateOf_101 : decode b_Ins_immediateOf 101 = .ok (.iushr, 1) := by decide +kernel
theorem d_Ins_immediateOf_102 : decode b_Ins_immediateOf 102 = .ok (.sipush 2046, 3) := by decide +kernel
theorem d_Ins_immediateOf_105 : decode b_Ins_immediateOf 105 = .ok (.iand, 1) := by decide +kernel
theorem d_Ins_immediateOf_106 : decode b_Ins_immediateOf 106 = .ok (.ior, 1) := by decide +kernel
theorem d_Ins_immediateOf_107 : decode b_Ins_immediateOf 107 = .ok (.ireturn, 1) := by decide +kernel
theorem d_Ins_immediateOf_108 : decode b_Ins_immediateOf 108 = .ok (.aload_n 0, 1) := by decide +kernel
theorem d_Ins_immediateOf_109 : decode b_Ins_immediateOf 109 = .ok (.getfield 15, 3) := by decide +kernel
theorem d_Ins_immediateOf_112 : decode b_Ins_immediateOf 112 = .ok (.bipush 31, 2) := by decide +kernel
theorem d_Ins_immediateOf_114 : decode b_Ins_immediateOf 114 = .ok (.ishr, 1) := by decide +kernel
theorem d_Ins_immediateOf_115 : decode b_Ins_immediateOf 115 = .ok (.bipush 12, 2) := by decide +kernel
theorem d_Ins_immediateOf_117 : decode b_Ins_immediateOf 117 = .ok (.ishl, 1) := by decide +kernel
theorem d_Ins_immediateOf_118 : decode b_Ins_immediateOf 118 = .ok (.aload_n 0, 1) := by decide +kernel
theorem d_Ins_immediateOf_119 : decode b_Ins_immediateOf 119 = .ok (.getfield 15, 3) := by decide +kernel
theorem d_Ins_immediateOf_122 : decode b_Ins_immediateOf 122 = .ok (.iconst 4, 1) := by decide +kernel
theorem d_Ins_immediateOf_123 : decode b_Ins_immediateOf 123 = .ok (.ishl, 1) := by decide +kernel
theorem d_Ins_immediateOf_124 : decode b_Ins_immediateOf 124 = .ok (.sipush 2048, 3) := by decide +kernel
theorem d_Ins_immediateOf_127 : decode b_Ins_immediateOf 127 = .ok (.iand, 1) := by decide +kernel
theorem d_Ins_immediateOf_128 : decode b_Ins_immediateOf 128 = .ok (.ior, 1) := by decide +kernel
theorem d_Ins_immediateOf_129 : decode b_Ins_immediateOf 129 = .ok (.aload_n 0, 1) := by decide +kernel
theorem d_Ins_immediateOf_130 : decode b_Ins_immediateOf 130 = .ok (.getfield 15, 3) := by decide +kernel
theorem d_Ins_immediateOf_133 : decode b_Ins_immediateOf 133 = .ok (.bipush 20, 2) := by decide +kernel
theorem d_Ins_immediateOf_135 : decode b_Ins_immediateOf 135 = .ok (.iushr, 1) := by decide +kernel
theorem d_Ins_immediateOf_136 : decode b_Ins_immediateOf 136 = .ok (.sipush 2016, 3) := by decide +kernel
theorem d_Ins_immediateOf_139 : decode b_Ins_immediateOf 139 = .ok (.iand, 1) := by decide +kernel
theorem d_Ins_immediateOf_140 : decode b_Ins_immediateOf 140 = .ok (.ior, 1) := by decide +kernel
theorem d_Ins_immediateOf_141 : decode b_Ins_immediateOf 141 = .ok (.aload_n 0, 1) := by decide +kernel
theorem d_Ins_immediateOf_142 : decode b_Ins_immediateOf 142 = .ok (.getfield 21, 3) := by decide +kernel
theorem d_Ins_immediateOf_145 : decode b_Ins_immediateOf 145 = .ok (.bipush 30, 2) := by decide +kernel
theorem d_Ins_immediateOf_147 : decode b_Ins_immediateOf 147 = .ok (.iand, 1) := by decide +kernel
theorem d_Ins_immediateOf_148 : decode b_Ins_immediateOf 148 = .ok (.ior, 1) := by decide +kernel
theorem d_Ins_immediateOf_149 : decode b_Ins_immediateOf 149 = .ok (.ireturn, 1) := by decide +kernel
theorem d_Ins_immediateOf_150 : decode b_Ins_immediateOf 150 = .ok (.aload_n 0, 1) := by decide +kernel
theorem d_Ins_immediateOf_151 : decode b_Ins_immediateOf 151 = .ok (.getfield 15, 3) := by decide +kernel
theorem d_Ins_immediateOf_154 : decode b_Ins_immediateOf 154 = .ok (.bipush 25, 2) := by decide +kernel
theorem d_Ins_immediateOf_156 : decode b_Ins_immediateOf 156 = .ok (.ishr, 1) := by decide +kernel
theorem d_Ins_immediateOf_157 : decode b_Ins_immediateOf 157 = .ok (.iconst 5, 1) := by decide +kernel
theorem d_Ins_immediateOf_158 : decode b_Ins_immediateOf 158 = .ok (.ishl, 1) := by decide +kernel
theorem d_Ins_immediateOf_159 : decode b_Ins_immediateOf 159 = .ok (.aload_n 0, 1) := by decide +kernel
theorem d_Ins_immediateOf_160 : decode b_Ins_immediateOf 160 = .ok (.getfield 21, 3) := by decide +kernel
theorem d_Ins_immediateOf_163 : decode b_Ins_immediateOf 163 = .ok (.ior, 1) := by decide +kernel
theorem d_Ins_immediateOf_164 : decode b_Ins_immediateOf 164 = .ok (.ireturn, 1) := by decide +kernel
theorem d_Ins_immediateOf_165 : decode b_Ins_immediateOf 165 = .ok (.aload_n 0, 1) := by decide +kernel
theorem d_Ins_immediateOf_166 : decode b_Ins_immediateOf 166 = .ok (.getfield 15, 3) := by decide +kernel
theorem d_Ins_immediateOf_169 : decode b_Ins_immediateOf 169 = .ok (.bipush 20, 2) := by decide +kernel
theorem d_Ins_immediateOf_171 : decode b_Ins_immediateOf 171 = .ok (.ishr, 1) := by decide +kernel
theorem d_Ins_immediateOf_172 : decode b_Ins_immediateOf 172 = .ok (.ireturn, 1) := by decide +kernel
theorem d_Pip_fetch_0 : decode b_Pip_fetch 0 = .ok (.aload_n 0, 1) := by decide +kernel
theorem d_Pip_fetch_1 : decode b_Pip_fetch 1 = .ok (.iload_n 1, 1) := by decide +kernel
theorem d_Pip_fetch_2 : decode b_Pip_fetch 2 = .ok (.sipush 4096, 3) := by decide +kernel
theorem d_Pip_fetch_5 : decode b_Pip_fetch 5 = .ok (.if_icmp .ge 7, 3) := by decide +kernel
theorem d_Pip_fetch_8 : decode b_Pip_fetch 8 = .ok (.iload_n 1, 1) := by decide +kernel
theorem d_Pip_fetch_9 : decode b_Pip_fetch 9 = .ok (.goto 4, 3) := by decide +kernel
theorem d_Pip_fetch_12 : decode b_Pip_fetch 12 = .ok (.iconst (-1), 1) := by decide +kernel
theorem d_Pip_fetch_13 : decode b_Pip_fetch 13 = .ok (.putfield 21, 3) := by decide +kernel
theorem d_Pip_fetch_16 : decode b_Pip_fetch 16 = .ok (.aload_n 0, 1) := by decide +kernel
theorem d_Pip_fetch_17 : decode b_Pip_fetch 17 = .ok (.getfield 21, 3) := by decide +kernel
theorem d_Pip_fetch_20 : decode b_Pip_fetch 20 = .ok (.iconst (-1), 1) := by decide +kernel
theorem d_Pip_fetch_21 : decode b_Pip_fetch 21 = .ok (.if_icmp .eq 15, 3) := by decide +kernel
theorem d_Pip_fetch_24 : decode b_Pip_fetch 24 = .ok (.aload_n 0, 1) := by decide +kernel
theorem d_Pip_fetch_25 : decode b_Pip_fetch 25 = .ok (.aload_n 0, 1) := by decide +kernel
theorem d_Pip_fetch_26 : decode b_Pip_fetch 26 = .ok (.getfield 25, 3) := by decide +kernel
theorem d_Pip_fetch_29 : decode b_Pip_fetch 29 = .ok (.iload_n 1, 1) := by decide +kernel
theorem d_Pip_fetch_30 : decode b_Pip_fetch 30 = .ok (.invokevirtual 32, 3) := by decide +kernel
theorem d_Pip_fetch_33 : decode b_Pip_fetch 33 = .ok (.putfield 46, 3) := by decide +kernel
theorem d_Pip_fetch_36 : decode b_Pip_fetch 36 = .ok (.return_, 1) := by decide +kernel
theorem d_Sta_illegal_0 : decode b_Sta_illegal 0 = .ok (.aload_n 0, 1) := by decide +kernel
theorem d_Sta_illegal_1 : decode b_Sta_illegal 1 = .ok (.iconst 2, 1) := by decide +kernel
theorem d_Sta_illegal_2 : decode b_Sta_illegal 2 = .ok (.aload_n 1, 1) := by decide +kernel
theorem d_Sta_illegal_3 : decode b_Sta_illegal 3 = .ok (.getfield 49, 3) := by decide +kernel
theorem d_Sta_illegal_6 : decode b_Sta_illegal 6 = .ok (.invokevirtual 45, 3) := by decide +kernel
theorem d_Sta_illegal_9 : decode b_Sta_illegal 9 = .ok (.ireturn, 1) := by decide +kernel
theorem d_Sta_answer_0 : decode b_Sta_answer 0 = .ok (.iload_n 1, 1) := by decide +kernel
theorem d_Sta_answer_1 : decode b_Sta_answer 1 = .ok (.ifCond .eq 16, 3) := by decide +kernel
theorem d_Sta_answer_4 : decode b_Sta_answer 4 = .ok (.aload_n 0, 1) := by decide +kernel
theorem d_Sta_answer_5 : decode b_Sta_answer 5 = .ok (.getfield 11, 3) := by decide +kernel
theorem d_Sta_answer_8 : decode b_Sta_answer 8 = .ok (.iload_n 1, 1) := by decide +kernel
theorem d_Sta_answer_9 : decode b_Sta_answer 9 = .ok (.aaload, 1) := by decide +kernel
theorem d_Sta_answer_10 : decode b_Sta_answer 10 = .ok (.aload_n 0, 1) := by decide +kernel
theorem d_Sta_answer_11 : decode b_Sta_answer 11 = .ok (.getfield 18, 3) := by decide +kernel
theorem d_Sta_answer_14 : decode b_Sta_answer 14 = .ok (.invokevirtual 84, 3) := by decide +kernel
theorem d_Sta_answer_17 : decode b_Sta_answer 17 = .ok (.iconst (-1), 1) := by decide +kernel
theorem d_Sta_answer_18 : decode b_Sta_answer 18 = .ok (.ireturn, 1) := by decide +kernel
theorem d_Sta_answerNumber_0 : decode b_Sta_answerNumber 0 = .ok (.iload_n 1, 1) := by decide +kernel
theorem d_Sta_answerNumber_1 : decode b_Sta_answerNumber 1 = .ok (.ifCond .eq 13, 3) := by decide +kernel
theorem d_Sta_answerNumber_4 : decode b_Sta_answerNumber 4 = .ok (.aload_n 0, 1) := by decide +kernel
theorem d_Sta_answerNumber_5 : decode b_Sta_answerNumber 5 = .ok (.getfield 11, 3) := by decide +kernel
theorem d_Sta_answerNumber_8 : decode b_Sta_answerNumber 8 = .ok (.iload_n 1, 1) := by decide +kernel
theorem d_Sta_answerNumber_9 : decode b_Sta_answerNumber 9 = .ok (.aaload, 1) := by decide +kernel
theorem d_Sta_answerNumber_10 : decode b_Sta_answerNumber 10 = .ok (.iload_n 2, 1) := by decide +kernel
theorem d_Sta_answerNumber_11 : decode b_Sta_answerNumber 11 = .ok (.invokevirtual 99, 3) := by decide +kernel
theorem d_Sta_answerNumber_14 : decode b_Sta_answerNumber 14 = .ok (.iconst (-1), 1) := by decide +kernel
theorem d_Sta_answerNumber_15 : decode b_Sta_answerNumber 15 = .ok (.ireturn, 1) := by decide +kernel
theorem d_Mem_readTag_0 : decode b_Mem_readTag 0 = .ok (.aload_n 0, 1) := by decide +kernel
theorem d_Mem_readTag_1 : decode b_Mem_readTag 1 = .ok (.getfield 32, 3) := by decide +kernel
theorem d_Mem_readTag_4 : decode b_Mem_readTag 4 = .ok (.aload_n 0, 1) := by decide +kernel
theorem d_Mem_readTag_5 : decode b_Mem_readTag 5 = .ok (.iload_n 1, 1) := by decide +kernel
theorem d_Mem_readTag_6 : decode b_Mem_readTag 6 = .ok (.bipush 8, 2) := by decide +kernel
theorem d_Mem_readTag_8 : decode b_Mem_readTag 8 = .ok (.idiv, 1) := by decide +kernel
theorem d_Mem_readTag_9 : decode b_Mem_readTag 9 = .ok (.invokevirtual 39, 3) := by decide +kernel
theorem d_Mem_readTag_12 : decode b_Mem_readTag 12 = .ok (.iaload, 1) := by decide +kernel
theorem d_Mem_readTag_13 : decode b_Mem_readTag 13 = .ok (.iload_n 1, 1) := by decide +kernel
theorem d_Mem_readTag_14 : decode b_Mem_readTag 14 = .ok (.invokestatic 43, 3) := by decide +kernel
theorem d_Mem_readTag_17 : decode b_Mem_readTag 17 = .ok (.iand, 1) := by decide +kernel
theorem d_Mem_readTag_18 : decode b_Mem_readTag 18 = .ok (.ifCond .eq 7, 3) := by decide +kernel
theorem d_Mem_readTag_21 : decode b_Mem_readTag 21 = .ok (.iconst 1, 1) := by decide +kernel
theorem d_Mem_readTag_22 : decode b_Mem_readTag 22 = .ok (.goto 4, 3) := by decide +kernel
theorem d_Mem_readTag_25 : decode b_Mem_readTag 25 = .ok (.iconst 0, 1) := by decide +kernel
theorem d_Mem_readTag_26 : decode b_Mem_readTag 26 = .ok (.ireturn, 1) := by decide +kernel
theorem d_Mem_writeTag_0 : decode b_Mem_writeTag 0 = .ok (.aload_n 0, 1) := by decide +kernel
theorem d_Mem_writeTag_1 : decode b_Mem_writeTag 1 = .ok (.iload_n 1, 1) := by decide +kernel
theorem d_Mem_writeTag_2 : decode b_Mem_writeTag 2 = .ok (.bipush 8, 2) := by decide +kernel
theorem d_Mem_writeTag_4 : decode b_Mem_writeTag 4 = .ok (.idiv, 1) := by decide +kernel
theorem d_Mem_writeTag_5 : decode b_Mem_writeTag 5 = .ok (.invokevirtual 39, 3) := by decide +kernel
theorem d_Mem_writeTag_8 : decode b_Mem_writeTag 8 = .ok (.istore_n 2, 1) := by decide +kernel
theorem d_Mem_writeTag_9 : decode b_Mem_writeTag 9 = .ok (.aload_n 0, 1) := by decide +kernel
theorem d_Mem_writeTag_10 : decode b_Mem_writeTag 10 = .ok (.getfield 32, 3) := by decide +kernel
theorem d_Mem_writeTag_13 : decode b_Mem_writeTag 13 = .ok (.iload_n 2, 1) := by decide +kernel
theorem d_Mem_writeTag_14 : decode b_Mem_writeTag 14 = .ok (.dup2, 1) := by decide +kernel
theorem d_Mem_writeTag_15 : decode b_Mem_writeTag 15 = .ok (.iaload, 1) := by decide +kernel
theorem d_Mem_writeTag_16 : decode b_Mem_writeTag 16 = .ok (.iload_n 1, 1) := by decide +kernel
theorem d_Mem_writeTag_17 : decode b_Mem_writeTag 17 = .ok (.invokestatic 43, 3) := by decide +kernel
theorem d_Mem_writeTag_20 : decode b_Mem_writeTag 20 = .ok (.ior, 1) := by decide +kernel
theorem d_Mem_writeTag_21 : decode b_Mem_writeTag 21 = .ok (.iastore, 1) := by decide +kernel
theorem d_Mem_writeTag_22 : decode b_Mem_writeTag 22 = .ok (.aload_n 0, 1) := by decide +kernel
theorem d_Mem_writeTag_23 : decode b_Mem_writeTag 23 = .ok (.getfield 35, 3) := by decide +kernel
theorem d_Mem_writeTag_26 : decode b_Mem_writeTag 26 = .ok (.iload_n 2, 1) := by decide +kernel
theorem d_Mem_writeTag_27 : decode b_Mem_writeTag 27 = .ok (.iconst 1, 1) := by decide +kernel
theorem d_Mem_writeTag_28 : decode b_Mem_writeTag 28 = .ok (.bastore, 1) := by decide +kernel
theorem d_Mem_writeTag_29 : decode b_Mem_writeTag 29 = .ok (.return_, 1) := by decide +kernel
theorem d_Sta_link_0 : decode b_Sta_link 0 = .ok (.aload_n 0, 1) := by decide +kernel
theorem d_Sta_link_1 : decode b_Sta_link 1 = .ok (.getfield 18, 3) := by decide +kernel
theorem d_Sta_link_4 : decode b_Sta_link 4 = .ok (.aload_n 0, 1) := by decide +kernel
theorem d_Sta_link_5 : decode b_Sta_link 5 = .ok (.getfield 38, 3) := by decide +kernel
theorem d_Sta_link_8 : decode b_Sta_link 8 = .ok (.invokevirtual 84, 3) := by decide +kernel
theorem d_Sta_link_11 : decode b_Sta_link 11 = .ok (.aload_n 0, 1) := by decide +kernel
theorem d_Sta_link_12 : decode b_Sta_link 12 = .ok (.getfield 18, 3) := by decide +kernel
theorem d_Sta_link_15 : decode b_Sta_link 15 = .ok (.aload_n 0, 1) := by decide +kernel
theorem d_Sta_link_16 : decode b_Sta_link 16 = .ok (.getfield 38, 3) := by decide +kernel
theorem d_Sta_link_19 : decode b_Sta_link 19 = .ok (.getfield 58, 3) := by decide +kernel
theorem d_Sta_link_22 : decode b_Sta_link 22 = .ok (.iconst 4, 1) := by decide +kernel
theorem d_Sta_link_23 : decode b_Sta_link 23 = .ok (.iadd, 1) := by decide +kernel
theorem d_Sta_link_24 : decode b_Sta_link 24 = .ok (.invokevirtual 88, 3) := by decide +kernel
theorem d_Sta_link_27 : decode b_Sta_link 27 = .ok (.aload_n 0, 1) := by decide +kernel
theorem d_Sta_link_28 : decode b_Sta_link 28 = .ok (.getfield 18, 3) := by decide +kernel
theorem d_Sta_link_31 : decode b_Sta_link 31 = .ok (.bipush 14, 2) := by decide +kernel
theorem d_Sta_link_33 : decode b_Sta_link 33 = .ok (.invokevirtual 92, 3) := by decide +kernel
theorem d_Sta_link_36 : decode b_Sta_link 36 = .ok (.aload_n 0, 1) := by decide +kernel
theorem d_Sta_link_37 : decode b_Sta_link 37 = .ok (.iload_n 1, 1) := by decide +kernel
theorem d_Sta_link_38 : decode b_Sta_link 38 = .ok (.invokevirtual 95, 3) := by decide +kernel
theorem d_Sta_link_41 : decode b_Sta_link 41 = .ok (.pop, 1) := by decide +kernel
theorem d_Sta_link_42 : decode b_Sta_link 42 = .ok (.return_, 1) := by decide +kernel
theorem d_Mem_tagsHeld_0 : decode b_Mem_tagsHeld 0 = .ok (.iconst 0, 1) := by decide +kernel
theorem d_Mem_tagsHeld_1 : decode b_Mem_tagsHeld 1 = .ok (.istore_n 1, 1) := by decide +kernel
theorem d_Mem_tagsHeld_2 : decode b_Mem_tagsHeld 2 = .ok (.iconst 0, 1) := by decide +kernel
theorem d_Mem_tagsHeld_3 : decode b_Mem_tagsHeld 3 = .ok (.istore_n 2, 1) := by decide +kernel
theorem d_Mem_tagsHeld_4 : decode b_Mem_tagsHeld 4 = .ok (.iload_n 2, 1) := by decide +kernel
theorem d_Mem_tagsHeld_5 : decode b_Mem_tagsHeld 5 = .ok (.sipush 512, 3) := by decide +kernel
theorem d_Mem_tagsHeld_8 : decode b_Mem_tagsHeld 8 = .ok (.if_icmp .ge 20, 3) := by decide +kernel
theorem d_Mem_tagsHeld_11 : decode b_Mem_tagsHeld 11 = .ok (.iload_n 1, 1) := by decide +kernel
theorem d_Mem_tagsHeld_12 : decode b_Mem_tagsHeld 12 = .ok (.aload_n 0, 1) := by decide +kernel
theorem d_Mem_tagsHeld_13 : decode b_Mem_tagsHeld 13 = .ok (.iload_n 2, 1) := by decide +kernel
theorem d_Mem_tagsHeld_14 : decode b_Mem_tagsHeld 14 = .ok (.invokevirtual 49, 3) := by decide +kernel
theorem d_Mem_tagsHeld_17 : decode b_Mem_tagsHeld 17 = .ok (.invokestatic 52, 3) := by decide +kernel
theorem d_Mem_tagsHeld_20 : decode b_Mem_tagsHeld 20 = .ok (.iadd, 1) := by decide +kernel
theorem d_Mem_tagsHeld_21 : decode b_Mem_tagsHeld 21 = .ok (.istore_n 1, 1) := by decide +kernel
theorem d_Mem_tagsHeld_22 : decode b_Mem_tagsHeld 22 = .ok (.iinc 2 1, 3) := by decide +kernel
theorem d_Mem_tagsHeld_25 : decode b_Mem_tagsHeld 25 = .ok (.goto (-21), 3) := by decide +kernel
theorem d_Mem_tagsHeld_28 : decode b_Mem_tagsHeld 28 = .ok (.iload_n 1, 1) := by decide +kernel
theorem d_Mem_tagsHeld_29 : decode b_Mem_tagsHeld 29 = .ok (.ireturn, 1) := by decide +kernel
