theorem d_Mod_init_0 : decode b_Mod_init 0 = .ok (.aload_n 0, 1) := by decide +kernel
theorem d_Mod_init_1 : decode b_Mod_init 1 = .ok (.invokespecial 1, 3) := by decide +kernel
theorem d_Mod_init_4 : decode b_Mod_init 4 = .ok (.aload_n 0, 1) := by decide +kernel
theorem d_Mod_init_5 : decode b_Mod_init 5 = .ok (.bipush 40, 2) := by decide +kernel
theorem d_Mod_init_7 : decode b_Mod_init 7 = .ok (.newarray .boolean, 2) := by decide +kernel
theorem d_Mod_init_9 : decode b_Mod_init 9 = .ok (.putfield 7, 3) := by decide +kernel
theorem d_Mod_init_12 : decode b_Mod_init 12 = .ok (.aload_n 0, 1) := by decide +kernel
theorem d_Mod_init_13 : decode b_Mod_init 13 = .ok (.bipush 40, 2) := by decide +kernel
theorem d_Mod_init_15 : decode b_Mod_init 15 = .ok (.newarray .int, 2) := by decide +kernel
theorem d_Mod_init_17 : decode b_Mod_init 17 = .ok (.putfield 13, 3) := by decide +kernel
theorem d_Mod_init_20 : decode b_Mod_init 20 = .ok (.aload_n 0, 1) := by decide +kernel
theorem d_Mod_init_21 : decode b_Mod_init 21 = .ok (.bipush 40, 2) := by decide +kernel
theorem d_Mod_init_23 : decode b_Mod_init 23 = .ok (.newarray .int, 2) := by decide +kernel
theorem d_Mod_init_25 : decode b_Mod_init 25 = .ok (.putfield 17, 3) := by decide +kernel
theorem d_Mod_init_28 : decode b_Mod_init 28 = .ok (.aload_n 0, 1) := by decide +kernel
theorem d_Mod_init_29 : decode b_Mod_init 29 = .ok (.sipush 4096, 3) := by decide +kernel
theorem d_Mod_init_32 : decode b_Mod_init 32 = .ok (.newarray .int, 2) := by decide +kernel
theorem d_Mod_init_34 : decode b_Mod_init 34 = .ok (.putfield 20, 3) := by decide +kernel
theorem d_Mod_init_37 : decode b_Mod_init 37 = .ok (.aload_n 0, 1) := by decide +kernel
theorem d_Mod_init_38 : decode b_Mod_init 38 = .ok (.sipush 2048, 3) := by decide +kernel
theorem d_Mod_init_41 : decode b_Mod_init 41 = .ok (.newarray .boolean, 2) := by decide +kernel
theorem d_Mod_init_43 : decode b_Mod_init 43 = .ok (.putfield 23, 3) := by decide +kernel
theorem d_Mod_init_46 : decode b_Mod_init 46 = .ok (.aload_n 0, 1) := by decide +kernel
theorem d_Mod_init_47 : decode b_Mod_init 47 = .ok (.bipush 8, 2) := by decide +kernel
theorem d_Mod_init_49 : decode b_Mod_init 49 = .ok (.newarray .long, 2) := by decide +kernel
theorem d_Mod_init_51 : decode b_Mod_init 51 = .ok (.putfield 26, 3) := by decide +kernel
theorem d_Mod_init_54 : decode b_Mod_init 54 = .ok (.aload_n 0, 1) := by decide +kernel
theorem d_Mod_init_55 : decode b_Mod_init 55 = .ok (.bipush 8, 2) := by decide +kernel
theorem d_Mod_init_57 : decode b_Mod_init 57 = .ok (.newarray .long, 2) := by decide +kernel
theorem d_Mod_init_59 : decode b_Mod_init 59 = .ok (.putfield 30, 3) := by decide +kernel
theorem d_Mod_init_62 : decode b_Mod_init 62 = .ok (.aload_n 0, 1) := by decide +kernel
theorem d_Mod_init_63 : decode b_Mod_init 63 = .ok (.bipush 8, 2) := by decide +kernel
theorem d_Mod_init_65 : decode b_Mod_init 65 = .ok (.newarray .int, 2) := by decide +kernel
theorem d_Mod_init_67 : decode b_Mod_init 67 = .ok (.putfield 33, 3) := by decide +kernel
theorem d_Mod_init_70 : decode b_Mod_init 70 = .ok (.iconst 0, 1) := by decide +kernel
theorem d_Mod_init_71 : decode b_Mod_init 71 = .ok (.istore_n 1, 1) := by decide +kernel
theorem d_Mod_init_72 : decode b_Mod_init 72 = .ok (.iload_n 1, 1) := by decide +kernel
theorem d_Mod_init_73 : decode b_Mod_init 73 = .ok (.bipush 40, 2) := by decide +kernel
theorem d_Mod_init_75 : decode b_Mod_init 75 = .ok (.if_icmp .ge 17, 3) := by decide +kernel
theorem d_Mod_init_78 : decode b_Mod_init 78 = .ok (.aload_n 0, 1) := by decide +kernel
theorem d_Mod_init_79 : decode b_Mod_init 79 = .ok (.getfield 17, 3) := by decide +kernel
theorem d_Mod_init_82 : decode b_Mod_init 82 = .ok (.iload_n 1, 1) := by decide +kernel
theorem d_Mod_init_83 : decode b_Mod_init 83 = .ok (.ldc 36, 2) := by decide +kernel
theorem d_Mod_init_85 : decode b_Mod_init 85 = .ok (.iastore, 1) := by decide +kernel
theorem d_Mod_init_86 : decode b_Mod_init 86 = .ok (.iinc 1 1, 3) := by decide +kernel
theorem d_Mod_init_89 : decode b_Mod_init 89 = .ok (.goto (-17), 3) := by decide +kernel
theorem d_Mod_init_92 : decode b_Mod_init 92 = .ok (.return_, 1) := by decide +kernel
theorem d_Mod_thrown_0 : decode b_Mod_thrown 0 = .ok (.aload_n 0, 1) := by decide +kernel
theorem d_Mod_thrown_1 : decode b_Mod_thrown 1 = .ok (.getfield 37, 3) := by decide +kernel
theorem d_Mod_thrown_4 : decode b_Mod_thrown 4 = .ok (.ireturn, 1) := by decide +kernel
theorem d_Mod_word_0 : decode b_Mod_word 0 = .ok (.iload_n 1, 1) := by decide +kernel
theorem d_Mod_word_1 : decode b_Mod_word 1 = .ok (.ifCond .lt 10, 3) := by decide +kernel
theorem d_Mod_word_4 : decode b_Mod_word 4 = .ok (.iload_n 1, 1) := by decide +kernel
theorem d_Mod_word_5 : decode b_Mod_word 5 = .ok (.sipush 4096, 3) := by decide +kernel
theorem d_Mod_word_8 : decode b_Mod_word 8 = .ok (.if_icmp .lt 9, 3) := by decide +kernel
theorem d_Mod_word_11 : decode b_Mod_word 11 = .ok (.aload_n 0, 1) := by decide +kernel
theorem d_Mod_word_12 : decode b_Mod_word 12 = .ok (.iconst 1, 1) := by decide +kernel
theorem d_Mod_word_13 : decode b_Mod_word 13 = .ok (.invokevirtual 245, 3) := by decide +kernel
theorem d_Mod_word_16 : decode b_Mod_word 16 = .ok (.ireturn, 1) := by decide +kernel
theorem d_Mod_word_17 : decode b_Mod_word 17 = .ok (.aload_n 0, 1) := by decide +kernel
theorem d_Mod_word_18 : decode b_Mod_word 18 = .ok (.iconst 0, 1) := by decide +kernel
theorem d_Mod_word_19 : decode b_Mod_word 19 = .ok (.putfield 37, 3) := by decide +kernel
theorem d_Mod_word_22 : decode b_Mod_word 22 = .ok (.aload_n 0, 1) := by decide +kernel
theorem d_Mod_word_23 : decode b_Mod_word 23 = .ok (.getfield 20, 3) := by decide +kernel
theorem d_Mod_word_26 : decode b_Mod_word 26 = .ok (.iload_n 1, 1) := by decide +kernel
theorem d_Mod_word_27 : decode b_Mod_word 27 = .ok (.iaload, 1) := by decide +kernel
theorem d_Mod_word_28 : decode b_Mod_word 28 = .ok (.istore_n 3, 1) := by decide +kernel
theorem d_Mod_word_29 : decode b_Mod_word 29 = .ok (.aload_n 0, 1) := by decide +kernel
theorem d_Mod_word_30 : decode b_Mod_word 30 = .ok (.getfield 20, 3) := by decide +kernel
theorem d_Mod_word_33 : decode b_Mod_word 33 = .ok (.iload_n 1, 1) := by decide +kernel
theorem d_Mod_word_34 : decode b_Mod_word 34 = .ok (.iload_n 2, 1) := by decide +kernel
theorem d_Mod_word_35 : decode b_Mod_word 35 = .ok (.iastore, 1) := by decide +kernel
theorem d_Mod_word_36 : decode b_Mod_word 36 = .ok (.aload_n 0, 1) := by decide +kernel
theorem d_Mod_word_37 : decode b_Mod_word 37 = .ok (.getfield 23, 3) := by decide +kernel
theorem d_Mod_word_40 : decode b_Mod_word 40 = .ok (.iload_n 1, 1) := by decide +kernel
theorem d_Mod_word_41 : decode b_Mod_word 41 = .ok (.iconst 2, 1) := by decide +kernel
theorem d_Mod_word_42 : decode b_Mod_word 42 = .ok (.idiv, 1) := by decide +kernel
theorem d_Mod_word_43 : decode b_Mod_word 43 = .ok (.iconst 0, 1) := by decide +kernel
theorem d_Mod_word_44 : decode b_Mod_word 44 = .ok (.bastore, 1) := by decide +kernel
theorem d_Mod_word_45 : decode b_Mod_word 45 = .ok (.iload_n 3, 1) := by decide +kernel
theorem d_Mod_word_46 : decode b_Mod_word 46 = .ok (.ireturn, 1) := by decide +kernel
theorem d_Mod_fail_0 : decode b_Mod_fail 0 = .ok (.aload_n 0, 1) := by decide +kernel
theorem d_Mod_fail_1 : decode b_Mod_fail 1 = .ok (.iload_n 1, 1) := by decide +kernel
theorem d_Mod_fail_2 : decode b_Mod_fail 2 = .ok (.putfield 37, 3) := by decide +kernel
theorem d_Mod_fail_5 : decode b_Mod_fail 5 = .ok (.iconst 0, 1) := by decide +kernel
theorem d_Mod_fail_6 : decode b_Mod_fail 6 = .ok (.ireturn, 1) := by decide +kernel
theorem d_Mod_root_0 : decode b_Mod_root 0 = .ok (.iload_n 1, 1) := by decide +kernel
theorem d_Mod_root_1 : decode b_Mod_root 1 = .ok (.iconst 1, 1) := by decide +kernel
theorem d_Mod_root_2 : decode b_Mod_root 2 = .ok (.if_icmp .lt 9, 3) := by decide +kernel
theorem d_Mod_root_5 : decode b_Mod_root 5 = .ok (.iload_n 1, 1) := by decide +kernel
theorem d_Mod_root_6 : decode b_Mod_root 6 = .ok (.bipush 37, 2) := by decide +kernel
theorem d_Mod_root_8 : decode b_Mod_root 8 = .ok (.if_icmp .lt 9, 3) := by decide +kernel
theorem d_Mod_root_11 : decode b_Mod_root 11 = .ok (.aload_n 0, 1) := by decide +kernel
theorem d_Mod_root_12 : decode b_Mod_root 12 = .ok (.iconst 1, 1) := by decide +kernel
theorem d_Mod_root_13 : decode b_Mod_root 13 = .ok (.invokevirtual 245, 3) := by decide +kernel
theorem d_Mod_root_16 : decode b_Mod_root 16 = .ok (.ireturn, 1) := by decide +kernel
theorem d_Mod_root_17 : decode b_Mod_root 17 = .ok (.iload_n 3, 1) := by decide +kernel
theorem d_Mod_root_18 : decode b_Mod_root 18 = .ok (.ifCond .lt 30, 3) := by decide +kernel
theorem d_Mod_root_21 : decode b_Mod_root 21 = .ok (.iload_n 2, 1) := by decide +kernel
theorem d_Mod_root_22 : decode b_Mod_root 22 = .ok (.invokestatic 58, 3) := by decide +kernel
theorem d_Mod_root_25 : decode b_Mod_root 25 = .ok (.iload_n 3, 1) := by decide +kernel
theorem d_Mod_root_26 : decode b_Mod_root 26 = .ok (.i2l, 1) := by decide +kernel
theorem d_Mod_root_27 : decode b_Mod_root 27 = .ok (.ladd, 1) := by decide +kernel
theorem d_Mod_root_28 : decode b_Mod_root 28 = .ok (.ldc2_w 78, 3) := by decide +kernel
theorem d_Mod_root_31 : decode b_Mod_root 31 = .ok (.lcmp, 1) := by decide +kernel
theorem d_Mod_root_32 : decode b_Mod_root 32 = .ok (.ifCond .gt 16, 3) := by decide +kernel
theorem d_Mod_root_35 : decode b_Mod_root 35 = .ok (.iload 4, 2) := by decide +kernel
theorem d_Mod_root_37 : decode b_Mod_root 37 = .ok (.ifCond .lt 11, 3) := by decide +kernel
theorem d_Mod_root_40 : decode b_Mod_root 40 = .ok (.iload 4, 2) := by decide +kernel
theorem d_Mod_root_42 : decode b_Mod_root 42 = .ok (.sipush 4095, 3) := by decide +kernel
theorem d_Mod_root_45 : decode b_Mod_root 45 = .ok (.if_icmp .le 9, 3) := by decide +kernel
theorem d_Mod_root_48 : decode b_Mod_root 48 = .ok (.aload_n 0, 1) := by decide +kernel
theorem d_Mod_root_49 : decode b_Mod_root 49 = .ok (.iconst 2, 1) := by decide +kernel
theorem d_Mod_root_50 : decode b_Mod_root 50 = .ok (.invokevirtual 245, 3) := by decide +kernel
theorem d_Mod_root_53 : decode b_Mod_root 53 = .ok (.ireturn, 1) := by decide +kernel
theorem d_Mod_root_54 : decode b_Mod_root 54 = .ok (.aload_n 0, 1) := by decide +kernel
theorem d_Mod_root_55 : decode b_Mod_root 55 = .ok (.getfield 248, 3) := by decide +kernel
theorem d_Mod_root_58 : decode b_Mod_root 58 = .ok (.bipush 8, 2) := by decide +kernel
theorem d_Mod_root_60 : decode b_Mod_root 60 = .ok (.if_icmp .ne 9, 3) := by decide +kernel
theorem d_Mod_root_63 : decode b_Mod_root 63 = .ok (.aload_n 0, 1) := by decide +kernel
theorem d_Mod_root_64 : decode b_Mod_root 64 = .ok (.iconst 3, 1) := by decide +kernel
theorem d_Mod_root_65 : decode b_Mod_root 65 = .ok (.invokevirtual 245, 3) := by decide +kernel
theorem d_Mod_root_68 : decode b_Mod_root 68 = .ok (.ireturn, 1) := by decide +kernel
theorem d_Mod_root_69 : decode b_Mod_root 69 = .ok (.aload_n 0, 1) := by decide +kernel
theorem d_Mod_root_70 : decode b_Mod_root 70 = .ok (.iconst 0, 1) := by decide +kernel
theorem d_Mod_root_71 : decode b_Mod_root 71 = .ok (.putfield 37, 3) := by decide +kernel
theorem d_Mod_root_74 : decode b_Mod_root 74 = .ok (.aload_n 0, 1) := by decide +kernel
theorem d_Mod_root_75 : decode b_Mod_root 75 = .ok (.iload_n 2, 1) := by decide +kernel
theorem d_Mod_root_76 : decode b_Mod_root 76 = .ok (.invokestatic 58, 3) := by decide +kernel
theorem d_Mod_root_79 : decode b_Mod_root 79 = .ok (.iload_n 2, 1) := by decide +kernel
theorem d_Mod_root_80 : decode b_Mod_root 80 = .ok (.invokestatic 58, 3) := by decide +kernel
theorem d_Mod_root_83 : decode b_Mod_root 83 = .ok (.iload_n 3, 1) := by decide +kernel
theorem d_Mod_root_84 : decode b_Mod_root 84 = .ok (.i2l, 1) := by decide +kernel
theorem d_Mod_root_85 : decode b_Mod_root 85 = .ok (.ladd, 1) := by decide +kernel
theorem d_Mod_root_86 : decode b_Mod_root 86 = .ok (.invokevirtual 213, 3) := by decide +kernel
theorem d_Mod_root_89 : decode b_Mod_root 89 = .ok (.aload_n 0, 1) := by decide +kernel
theorem d_Mod_root_90 : decode b_Mod_root 90 = .ok (.iload_n 1, 1) := by decide +kernel
theorem d_Mod_root_91 : decode b_Mod_root 91 = .ok (.iconst 1, 1) := by decide +kernel
theorem d_Mod_root_92 : decode b_Mod_root 92 = .ok (.iload_n 2, 1) := by decide +kernel
theorem d_Mod_root_93 : decode b_Mod_root 93 = .ok (.iload 4, 2) := by decide +kernel
theorem d_Mod_root_95 : decode b_Mod_root 95 = .ok (.bipush 20, 2) := by decide +kernel
theorem d_Mod_root_97 : decode b_Mod_root 97 = .ok (.ishl, 1) := by decide +kernel
theorem d_Mod_root_98 : decode b_Mod_root 98 = .ok (.ldc 251, 2) := by decide +kernel
theorem d_Mod_root_100 : decode b_Mod_root 100 = .ok (.ior, 1) := by decide +kernel
theorem d_Mod_root_101 : decode b_Mod_root 101 = .ok (.aload_n 0, 1) := by decide +kernel
theorem d_Mod_root_102 : decode b_Mod_root 102 = .ok (.getfield 87, 3) := by decide +kernel
theorem d_Mod_root_105 : decode b_Mod_root 105 = .ok (.ior, 1) := by decide +kernel
theorem d_Mod_root_106 : decode b_Mod_root 106 = .ok (.invokevirtual 100, 3) := by decide +kernel
theorem d_Mod_root_109 : decode b_Mod_root 109 = .ok (.aload_n 0, 1) := by decide +kernel
theorem d_Mod_root_110 : decode b_Mod_root 110 = .ok (.getfield 26, 3) := by decide +kernel
theorem d_Mod_root_113 : decode b_Mod_root 113 = .ok (.aload_n 0, 1) := by decide +kernel
theorem d_Mod_root_114 : decode b_Mod_root 114 = .ok (.getfield 248, 3) := by decide +kernel
theorem d_Mod_root_117 : decode b_Mod_root 117 = .ok (.aload_n 0, 1) := by decide +kernel
theorem d_Mod_root_118 : decode b_Mod_root 118 = .ok (.getfield 17, 3) := by decide +kernel
theorem d_Mod_root_121 : decode b_Mod_root 121 = .ok (.iload_n 1, 1) := by decide +kernel
theorem d_Mod_root_122 : decode b_Mod_root 122 = .ok (.iaload, 1) := by decide +kernel
theorem d_Mod_root_123 : decode b_Mod_root 123 = .ok (.iload_n 2, 1) := by decide +kernel
theorem d_Mod_root_124 : decode b_Mod_root 124 = .ok (.invokestatic 75, 3) := by decide +kernel
theorem d_Mod_root_127 : decode b_Mod_root 127 = .ok (.lastore, 1) := by decide +kernel
theorem d_Mod_root_128 : decode b_Mod_root 128 = .ok (.aload_n 0, 1) := by decide +kernel
theorem d_Mod_root_129 : decode b_Mod_root 129 = .ok (.getfield 30, 3) := by decide +kernel
theorem d_Mod_root_132 : decode b_Mod_root 132 = .ok (.aload_n 0, 1) := by decide +kernel
theorem d_Mod_root_133 : decode b_Mod_root 133 = .ok (.getfield 248, 3) := by decide +kernel
theorem d_Mod_root_136 : decode b_Mod_root 136 = .ok (.aload_n 0, 1) := by decide +kernel
theorem d_Mod_root_137 : decode b_Mod_root 137 = .ok (.getfield 17, 3) := by decide +kernel
theorem d_Mod_root_140 : decode b_Mod_root 140 = .ok (.iload_n 1, 1) := by decide +kernel
theorem d_Mod_root_141 : decode b_Mod_root 141 = .ok (.iaload, 1) := by decide +kernel
theorem d_Mod_root_142 : decode b_Mod_root 142 = .ok (.iload_n 2, 1) := by decide +kernel
theorem d_Mod_root_143 : decode b_Mod_root 143 = .ok (.invokestatic 80, 3) := by decide +kernel
theorem d_Mod_root_146 : decode b_Mod_root 146 = .ok (.lastore, 1) := by decide +kernel
theorem d_Mod_root_147 : decode b_Mod_root 147 = .ok (.aload_n 0, 1) := by decide +kernel
theorem d_Mod_root_148 : decode b_Mod_root 148 = .ok (.getfield 33, 3) := by decide +kernel
theorem d_Mod_root_151 : decode b_Mod_root 151 = .ok (.aload_n 0, 1) := by decide +kernel
theorem d_Mod_root_152 : decode b_Mod_root 152 = .ok (.getfield 248, 3) := by decide +kernel
theorem d_Mod_root_155 : decode b_Mod_root 155 = .ok (.iload 4, 2) := by decide +kernel
theorem d_Mod_root_157 : decode b_Mod_root 157 = .ok (.iastore, 1) := by decide +kernel
theorem d_Mod_root_158 : decode b_Mod_root 158 = .ok (.aload_n 0, 1) := by decide +kernel
theorem d_Mod_root_159 : decode b_Mod_root 159 = .ok (.dup, 1) := by decide +kernel
theorem d_Mod_root_160 : decode b_Mod_root 160 = .ok (.getfield 248, 3) := by decide +kernel
theorem d_Mod_root_163 : decode b_Mod_root 163 = .ok (.iconst 1, 1) := by decide +kernel
theorem d_Mod_root_164 : decode b_Mod_root 164 = .ok (.iadd, 1) := by decide +kernel
theorem d_Mod_root_165 : decode b_Mod_root 165 = .ok (.putfield 248, 3) := by decide +kernel
theorem d_Mod_root_168 : decode b_Mod_root 168 = .ok (.aload_n 0, 1) := by decide +kernel
theorem d_Mod_root_169 : decode b_Mod_root 169 = .ok (.getfield 17, 3) := by decide +kernel
theorem d_Mod_root_172 : decode b_Mod_root 172 = .ok (.iload_n 1, 1) := by decide +kernel
theorem d_Mod_root_173 : decode b_Mod_root 173 = .ok (.iaload, 1) := by decide +kernel
theorem d_Mod_root_174 : decode b_Mod_root 174 = .ok (.iload_n 2, 1) := by decide +kernel
theorem d_Mod_root_175 : decode b_Mod_root 175 = .ok (.invokestatic 75, 3) := by decide +kernel
theorem d_Mod_root_178 : decode b_Mod_root 178 = .ok (.l2i, 1) := by decide +kernel
theorem d_Mod_root_179 : decode b_Mod_root 179 = .ok (.ireturn, 1) := by decide +kernel
theorem d_Mod_low_0 : decode b_Mod_low 0 = .ok (.iload_n 0, 1) := by decide +kernel
theorem d_Mod_low_1 : decode b_Mod_low 1 = .ok (.i2l, 1) := by decide +kernel
theorem d_Mod_low_2 : decode b_Mod_low 2 = .ok (.ldc2_w 41, 3) := by decide +kernel
theorem d_Mod_low_5 : decode b_Mod_low 5 = .ok (.land, 1) := by decide +kernel
theorem d_Mod_low_6 : decode b_Mod_low 6 = .ok (.lreturn, 1) := by decide +kernel
theorem d_Mod_pack_0 : decode b_Mod_pack 0 = .ok (.lload_n 3, 1) := by decide +kernel
theorem d_Mod_pack_1 : decode b_Mod_pack 1 = .ok (.lload_n 1, 1) := by decide +kernel
theorem d_Mod_pack_2 : decode b_Mod_pack 2 = .ok (.lsub, 1) := by decide +kernel
theorem d_Mod_pack_3 : decode b_Mod_pack 3 = .ok (.lstore 5, 2) := by decide +kernel
theorem d_Mod_pack_5 : decode b_Mod_pack 5 = .ok (.iconst 0, 1) := by decide +kernel
theorem d_Mod_pack_6 : decode b_Mod_pack 6 = .ok (.istore 7, 2) := by decide +kernel
theorem d_Mod_pack_8 : decode b_Mod_pack 8 = .ok (.lload 5, 2) := by decide +kernel
theorem d_Mod_pack_10 : decode b_Mod_pack 10 = .ok (.ldc2_w 83, 3) := by decide +kernel
theorem d_Mod_pack_13 : decode b_Mod_pack 13 = .ok (.ldiv, 1) := by decide +kernel
theorem d_Mod_pack_14 : decode b_Mod_pack 14 = .ok (.iload 7, 2) := by decide +kernel
theorem d_Mod_pack_16 : decode b_Mod_pack 16 = .ok (.lshr, 1) := by decide +kernel
theorem d_Mod_pack_17 : decode b_Mod_pack 17 = .ok (.lconst 0, 1) := by decide +kernel
theorem d_Mod_pack_18 : decode b_Mod_pack 18 = .ok (.lcmp, 1) := by decide +kernel
theorem d_Mod_pack_19 : decode b_Mod_pack 19 = .ok (.ifCond .le 9, 3) := by decide +kernel
theorem d_Mod_pack_22 : decode b_Mod_pack 22 = .ok (.iinc 7 1, 3) := by decide +kernel
theorem d_Mod_pack_25 : decode b_Mod_pack 25 = .ok (.goto (-17), 3) := by decide +kernel
theorem d_Mod_pack_28 : decode b_Mod_pack 28 = .ok (.iload 7, 2) := by decide +kernel
theorem d_Mod_pack_30 : decode b_Mod_pack 30 = .ok (.ifCond .ne 44, 3) := by decide +kernel
theorem d_Mod_pack_33 : decode b_Mod_pack 33 = .ok (.lload 5, 2) := by decide +kernel
theorem d_Mod_pack_35 : decode b_Mod_pack 35 = .ok (.ldc2_w 85, 3) := by decide +kernel
theorem d_Mod_pack_38 : decode b_Mod_pack 38 = .ok (.lcmp, 1) := by decide +kernel
theorem d_Mod_pack_39 : decode b_Mod_pack 39 = .ok (.ifCond .gt 35, 3) := by decide +kernel
theorem d_Mod_pack_42 : decode b_Mod_pack 42 = .ok (.aload_n 0, 1) := by decide +kernel
theorem d_Mod_pack_43 : decode b_Mod_pack 43 = .ok (.lload_n 3, 1) := by decide +kernel
theorem d_Mod_pack_44 : decode b_Mod_pack 44 = .ok (.ldc2_w 85, 3) := by decide +kernel
theorem d_Mod_pack_47 : decode b_Mod_pack 47 = .ok (.land, 1) := by decide +kernel
theorem d_Mod_pack_48 : decode b_Mod_pack 48 = .ok (.l2i, 1) := by decide +kernel
theorem d_Mod_pack_49 : decode b_Mod_pack 49 = .ok (.bipush 8, 2) := by decide +kernel
theorem d_Mod_pack_51 : decode b_Mod_pack 51 = .ok (.ishl, 1) := by decide +kernel
theorem d_Mod_pack_52 : decode b_Mod_pack 52 = .ok (.lload_n 1, 1) := by decide +kernel
theorem d_Mod_pack_53 : decode b_Mod_pack 53 = .ok (.l2i, 1) := by decide +kernel
theorem d_Mod_pack_54 : decode b_Mod_pack 54 = .ok (.sipush 255, 3) := by decide +kernel
theorem d_Mod_pack_57 : decode b_Mod_pack 57 = .ok (.iand, 1) := by decide +kernel
theorem d_Mod_pack_58 : decode b_Mod_pack 58 = .ok (.ior, 1) := by decide +kernel
theorem d_Mod_pack_59 : decode b_Mod_pack 59 = .ok (.putfield 87, 3) := by decide +kernel
theorem d_Mod_pack_62 : decode b_Mod_pack 62 = .ok (.aload_n 0, 1) := by decide +kernel
theorem d_Mod_pack_63 : decode b_Mod_pack 63 = .ok (.iconst 1, 1) := by decide +kernel
theorem d_Mod_pack_64 : decode b_Mod_pack 64 = .ok (.putfield 90, 3) := by decide +kernel
theorem d_Mod_pack_67 : decode b_Mod_pack 67 = .ok (.aload_n 0, 1) := by decide +kernel
theorem d_Mod_pack_68 : decode b_Mod_pack 68 = .ok (.lload 5, 2) := by decide +kernel
theorem d_Mod_pack_70 : decode b_Mod_pack 70 = .ok (.putfield 94, 3) := by decide +kernel
theorem d_Mod_pack_73 : decode b_Mod_pack 73 = .ok (.return_, 1) := by decide +kernel
theorem d_Mod_pack_74 : decode b_Mod_pack 74 = .ok (.lconst 1, 1) := by decide +kernel
theorem d_Mod_pack_75 : decode b_Mod_pack 75 = .ok (.iload 7, 2) := by decide +kernel
theorem d_Mod_pack_77 : decode b_Mod_pack 77 = .ok (.iconst 3, 1) := by decide +kernel
theorem d_Mod_pack_78 : decode b_Mod_pack 78 = .ok (.iadd, 1) := by decide +kernel
theorem d_Mod_pack_79 : decode b_Mod_pack 79 = .ok (.lshl, 1) := by decide +kernel
theorem d_Mod_pack_80 : decode b_Mod_pack 80 = .ok (.lstore 8, 2) := by decide +kernel
theorem d_Mod_pack_82 : decode b_Mod_pack 82 = .ok (.lload_n 1, 1) := by decide +kernel
theorem d_Mod_pack_83 : decode b_Mod_pack 83 = .ok (.lload 8, 2) := by decide +kernel
theorem d_Mod_pack_85 : decode b_Mod_pack 85 = .ok (.ldiv, 1) := by decide +kernel
theorem d_Mod_pack_86 : decode b_Mod_pack 86 = .ok (.lload 8, 2) := by decide +kernel
theorem d_Mod_pack_88 : decode b_Mod_pack 88 = .ok (.lmul, 1) := by decide +kernel
theorem d_Mod_pack_89 : decode b_Mod_pack 89 = .ok (.lstore 10, 2) := by decide +kernel
theorem d_Mod_pack_91 : decode b_Mod_pack 91 = .ok (.lload_n 3, 1) := by decide +kernel
theorem d_Mod_pack_92 : decode b_Mod_pack 92 = .ok (.lload 8, 2) := by decide +kernel
theorem d_Mod_pack_94 : decode b_Mod_pack 94 = .ok (.ladd, 1) := by decide +kernel
theorem d_Mod_pack_95 : decode b_Mod_pack 95 = .ok (.lconst 1, 1) := by decide +kernel
theorem d_Mod_pack_96 : decode b_Mod_pack 96 = .ok (.lsub, 1) := by decide +kernel
theorem d_Mod_pack_97 : decode b_Mod_pack 97 = .ok (.lload 8, 2) := by decide +kernel
theorem d_Mod_pack_99 : decode b_Mod_pack 99 = .ok (.ldiv, 1) := by decide +kernel
theorem d_Mod_pack_100 : decode b_Mod_pack 100 = .ok (.lload 8, 2) := by decide +kernel
theorem d_Mod_pack_102 : decode b_Mod_pack 102 = .ok (.lmul, 1) := by decide +kernel
theorem d_Mod_pack_103 : decode b_Mod_pack 103 = .ok (.lstore 12, 2) := by decide +kernel
theorem d_Mod_pack_105 : decode b_Mod_pack 105 = .ok (.lload 12, 2) := by decide +kernel
theorem d_Mod_pack_107 : decode b_Mod_pack 107 = .ok (.lload 10, 2) := by decide +kernel
theorem d_Mod_pack_109 : decode b_Mod_pack 109 = .ok (.lsub, 1) := by decide +kernel
theorem d_Mod_pack_110 : decode b_Mod_pack 110 = .ok (.lload 8, 2) := by decide +kernel
theorem d_Mod_pack_112 : decode b_Mod_pack 112 = .ok (.ldiv, 1) := by decide +kernel
theorem d_Mod_pack_113 : decode b_Mod_pack 113 = .ok (.ldc2_w 98, 3) := by decide +kernel
theorem d_Mod_pack_116 : decode b_Mod_pack 116 = .ok (.lcmp, 1) := by decide +kernel
theorem d_Mod_pack_117 : decode b_Mod_pack 117 = .ok (.ifCond .lt 37, 3) := by decide +kernel
theorem d_Mod_pack_120 : decode b_Mod_pack 120 = .ok (.iinc 7 1, 3) := by decide +kernel
theorem d_Mod_pack_123 : decode b_Mod_pack 123 = .ok (.lconst 1, 1) := by decide +kernel
theorem d_Mod_pack_124 : decode b_Mod_pack 124 = .ok (.iload 7, 2) := by decide +kernel
theorem d_Mod_pack_126 : decode b_Mod_pack 126 = .ok (.iconst 3, 1) := by decide +kernel
theorem d_Mod_pack_127 : decode b_Mod_pack 127 = .ok (.iadd, 1) := by decide +kernel
theorem d_Mod_pack_128 : decode b_Mod_pack 128 = .ok (.lshl, 1) := by decide +kernel
theorem d_Mod_pack_129 : decode b_Mod_pack 129 = .ok (.lstore 8, 2) := by decide +kernel
theorem d_Mod_pack_131 : decode b_Mod_pack 131 = .ok (.lload_n 1, 1) := by decide +kernel
theorem d_Mod_pack_132 : decode b_Mod_pack 132 = .ok (.lload 8, 2) := by decide +kernel
theorem d_Mod_pack_134 : decode b_Mod_pack 134 = .ok (.ldiv, 1) := by decide +kernel
theorem d_Mod_pack_135 : decode b_Mod_pack 135 = .ok (.lload 8, 2) := by decide +kernel
theorem d_Mod_pack_137 : decode b_Mod_pack 137 = .ok (.lmul, 1) := by decide +kernel
theorem d_Mod_pack_138 : decode b_Mod_pack 138 = .ok (.lstore 10, 2) := by decide +kernel
theorem d_Mod_pack_140 : decode b_Mod_pack 140 = .ok (.lload_n 3, 1) := by decide +kernel
theorem d_Mod_pack_141 : decode b_Mod_pack 141 = .ok (.lload 8, 2) := by decide +kernel
theorem d_Mod_pack_143 : decode b_Mod_pack 143 = .ok (.ladd, 1) := by decide +kernel
theorem d_Mod_pack_144 : decode b_Mod_pack 144 = .ok (.lconst 1, 1) := by decide +kernel
theorem d_Mod_pack_145 : decode b_Mod_pack 145 = .ok (.lsub, 1) := by decide +kernel
theorem d_Mod_pack_146 : decode b_Mod_pack 146 = .ok (.lload 8, 2) := by decide +kernel
theorem d_Mod_pack_148 : decode b_Mod_pack 148 = .ok (.ldiv, 1) := by decide +kernel
theorem d_Mod_pack_149 : decode b_Mod_pack 149 = .ok (.lload 8, 2) := by decide +kernel
theorem d_Mod_pack_151 : decode b_Mod_pack 151 = .ok (.lmul, 1) := by decide +kernel
theorem d_Mod_pack_152 : decode b_Mod_pack 152 = .ok (.lstore 12, 2) := by decide +kernel
theorem d_Mod_pack_154 : decode b_Mod_pack 154 = .ok (.lload 10, 2) := by decide +kernel
theorem d_Mod_pack_156 : decode b_Mod_pack 156 = .ok (.iload 7, 2) := by decide +kernel
theorem d_Mod_pack_158 : decode b_Mod_pack 158 = .ok (.lshr, 1) := by decide +kernel
theorem d_Mod_pack_159 : decode b_Mod_pack 159 = .ok (.l2i, 1) := by decide +kernel
theorem d_Mod_pack_160 : decode b_Mod_pack 160 = .ok (.sipush 248, 3) := by decide +kernel
theorem d_Mod_pack_163 : decode b_Mod_pack 163 = .ok (.iand, 1) := by decide +kernel
theorem d_Mod_pack_164 : decode b_Mod_pack 164 = .ok (.iload 7, 2) := by decide +kernel
theorem d_Mod_pack_166 : decode b_Mod_pack 166 = .ok (.bipush 7, 2) := by decide +kernel
theorem d_Mod_pack_168 : decode b_Mod_pack 168 = .ok (.iand, 1) := by decide +kernel
theorem d_Mod_pack_169 : decode b_Mod_pack 169 = .ok (.ior, 1) := by decide +kernel
theorem d_Mod_pack_170 : decode b_Mod_pack 170 = .ok (.istore 14, 2) := by decide +kernel
theorem d_Mod_pack_172 : decode b_Mod_pack 172 = .ok (.lload 12, 2) := by decide +kernel
theorem d_Mod_pack_174 : decode b_Mod_pack 174 = .ok (.iload 7, 2) := by decide +kernel
theorem d_Mod_pack_176 : decode b_Mod_pack 176 = .ok (.lshr, 1) := by decide +kernel
theorem d_Mod_pack_177 : decode b_Mod_pack 177 = .ok (.l2i, 1) := by decide +kernel
theorem d_Mod_pack_178 : decode b_Mod_pack 178 = .ok (.bipush 56, 2) := by decide +kernel
theorem d_Mod_pack_180 : decode b_Mod_pack 180 = .ok (.iand, 1) := by decide +kernel
theorem d_Mod_pack_181 : decode b_Mod_pack 181 = .ok (.iload 7, 2) := by decide +kernel
theorem d_Mod_pack_183 : decode b_Mod_pack 183 = .ok (.iconst 3, 1) := by decide +kernel
theorem d_Mod_pack_184 : decode b_Mod_pack 184 = .ok (.ishr, 1) := by decide +kernel
theorem d_Mod_pack_185 : decode b_Mod_pack 185 = .ok (.ior, 1) := by decide +kernel
theorem d_Mod_pack_186 : decode b_Mod_pack 186 = .ok (.istore 15, 2) := by decide +kernel
theorem d_Mod_pack_188 : decode b_Mod_pack 188 = .ok (.aload_n 0, 1) := by decide +kernel
theorem d_Mod_pack_189 : decode b_Mod_pack 189 = .ok (.sipush 16384, 3) := by decide +kernel
theorem d_Mod_pack_192 : decode b_Mod_pack 192 = .ok (.iload 15, 2) := by decide +kernel
theorem d_Mod_pack_194 : decode b_Mod_pack 194 = .ok (.bipush 8, 2) := by decide +kernel
theorem d_Mod_pack_196 : decode b_Mod_pack 196 = .ok (.ishl, 1) := by decide +kernel
theorem d_Mod_pack_197 : decode b_Mod_pack 197 = .ok (.ior, 1) := by decide +kernel
theorem d_Mod_pack_198 : decode b_Mod_pack 198 = .ok (.iload 14, 2) := by decide +kernel
theorem d_Mod_pack_200 : decode b_Mod_pack 200 = .ok (.ior, 1) := by decide +kernel
theorem d_Mod_pack_201 : decode b_Mod_pack 201 = .ok (.putfield 87, 3) := by decide +kernel
theorem d_Mod_pack_204 : decode b_Mod_pack 204 = .ok (.aload_n 0, 1) := by decide +kernel
theorem d_Mod_pack_205 : decode b_Mod_pack 205 = .ok (.lload 10, 2) := by decide +kernel
theorem d_Mod_pack_207 : decode b_Mod_pack 207 = .ok (.lload_n 1, 1) := by decide +kernel
theorem d_Mod_pack_208 : decode b_Mod_pack 208 = .ok (.lcmp, 1) := by decide +kernel
theorem d_Mod_pack_209 : decode b_Mod_pack 209 = .ok (.ifCond .ne 14, 3) := by decide +kernel
theorem d_Mod_pack_212 : decode b_Mod_pack 212 = .ok (.lload 12, 2) := by decide +kernel
theorem d_Mod_pack_214 : decode b_Mod_pack 214 = .ok (.lload_n 3, 1) := by decide +kernel
theorem d_Mod_pack_215 : decode b_Mod_pack 215 = .ok (.lcmp, 1) := by decide +kernel
theorem d_Mod_pack_216 : decode b_Mod_pack 216 = .ok (.ifCond .ne 7, 3) := by decide +kernel
theorem d_Mod_pack_219 : decode b_Mod_pack 219 = .ok (.iconst 1, 1) := by decide +kernel
theorem d_Mod_pack_220 : decode b_Mod_pack 220 = .ok (.goto 4, 3) := by decide +kernel
theorem d_Mod_pack_223 : decode b_Mod_pack 223 = .ok (.iconst 0, 1) := by decide +kernel
theorem d_Mod_pack_224 : decode b_Mod_pack 224 = .ok (.putfield 90, 3) := by decide +kernel
theorem d_Mod_pack_227 : decode b_Mod_pack 227 = .ok (.aload_n 0, 1) := by decide +kernel
theorem d_Mod_pack_228 : decode b_Mod_pack 228 = .ok (.lload 12, 2) := by decide +kernel
theorem d_Mod_pack_230 : decode b_Mod_pack 230 = .ok (.lload 10, 2) := by decide +kernel
theorem d_Mod_pack_232 : decode b_Mod_pack 232 = .ok (.lsub, 1) := by decide +kernel
theorem d_Mod_pack_233 : decode b_Mod_pack 233 = .ok (.putfield 94, 3) := by decide +kernel
theorem d_Mod_pack_236 : decode b_Mod_pack 236 = .ok (.return_, 1) := by decide +kernel
theorem d_Mod_set_0 : decode b_Mod_set 0 = .ok (.iload_n 1, 1) := by decide +kernel
theorem d_Mod_set_1 : decode b_Mod_set 1 = .ok (.ifCond .ne 4, 3) := by decide +kernel
theorem d_Mod_set_4 : decode b_Mod_set 4 = .ok (.return_, 1) := by decide +kernel
theorem d_Mod_set_5 : decode b_Mod_set 5 = .ok (.aload_n 0, 1) := by decide +kernel
theorem d_Mod_set_6 : decode b_Mod_set 6 = .ok (.getfield 7, 3) := by decide +kernel
theorem d_Mod_set_9 : decode b_Mod_set 9 = .ok (.iload_n 1, 1) := by decide +kernel
theorem d_Mod_set_10 : decode b_Mod_set 10 = .ok (.iload_n 2, 1) := by decide +kernel
theorem d_Mod_set_11 : decode b_Mod_set 11 = .ok (.bastore, 1) := by decide +kernel
theorem d_Mod_set_12 : decode b_Mod_set 12 = .ok (.aload_n 0, 1) := by decide +kernel
theorem d_Mod_set_13 : decode b_Mod_set 13 = .ok (.getfield 13, 3) := by decide +kernel
theorem d_Mod_set_16 : decode b_Mod_set 16 = .ok (.iload_n 1, 1) := by decide +kernel
theorem d_Mod_set_17 : decode b_Mod_set 17 = .ok (.iload_n 3, 1) := by decide +kernel
theorem d_Mod_set_18 : decode b_Mod_set 18 = .ok (.iastore, 1) := by decide +kernel
theorem d_Mod_set_19 : decode b_Mod_set 19 = .ok (.aload_n 0, 1) := by decide +kernel
theorem d_Mod_set_20 : decode b_Mod_set 20 = .ok (.getfield 17, 3) := by decide +kernel
theorem d_Mod_set_23 : decode b_Mod_set 23 = .ok (.iload_n 1, 1) := by decide +kernel
theorem d_Mod_set_24 : decode b_Mod_set 24 = .ok (.iload 4, 2) := by decide +kernel
theorem d_Mod_set_26 : decode b_Mod_set 26 = .ok (.iastore, 1) := by decide +kernel
theorem d_Mod_set_27 : decode b_Mod_set 27 = .ok (.return_, 1) := by decide +kernel
theorem d_Mod_base_0 : decode b_Mod_base 0 = .ok (.iload_n 0, 1) := by decide +kernel
theorem d_Mod_base_1 : decode b_Mod_base 1 = .ok (.invokestatic 45, 3) := by decide +kernel
theorem d_Mod_base_4 : decode b_Mod_base 4 = .ok (.iload_n 0, 1) := by decide +kernel
theorem d_Mod_base_5 : decode b_Mod_base 5 = .ok (.invokestatic 55, 3) := by decide +kernel
theorem d_Mod_base_8 : decode b_Mod_base 8 = .ok (.iload_n 0, 1) := by decide +kernel
theorem d_Mod_base_9 : decode b_Mod_base 9 = .ok (.iload_n 1, 1) := by decide +kernel
theorem d_Mod_base_10 : decode b_Mod_base 10 = .ok (.invokestatic 62, 3) := by decide +kernel
theorem d_Mod_base_13 : decode b_Mod_base 13 = .ok (.invokestatic 66, 3) := by decide +kernel
theorem d_Mod_base_16 : decode b_Mod_base 16 = .ok (.ldc2_w 41, 3) := by decide +kernel
theorem d_Mod_base_19 : decode b_Mod_base 19 = .ok (.land, 1) := by decide +kernel
theorem d_Mod_base_20 : decode b_Mod_base 20 = .ok (.lreturn, 1) := by decide +kernel
theorem d_Mod_bottom_0 : decode b_Mod_bottom 0 = .ok (.iload_n 0, 1) := by decide +kernel
theorem d_Mod_bottom_1 : decode b_Mod_bottom 1 = .ok (.bipush 14, 2) := by decide +kernel
theorem d_Mod_bottom_3 : decode b_Mod_bottom 3 = .ok (.ishr, 1) := by decide +kernel
theorem d_Mod_bottom_4 : decode b_Mod_bottom 4 = .ok (.iconst 1, 1) := by decide +kernel
theorem d_Mod_bottom_5 : decode b_Mod_bottom 5 = .ok (.iand, 1) := by decide +kernel
theorem d_Mod_bottom_6 : decode b_Mod_bottom 6 = .ok (.ifCond .ne 11, 3) := by decide +kernel
theorem d_Mod_bottom_9 : decode b_Mod_bottom 9 = .ok (.iload_n 0, 1) := by decide +kernel
theorem d_Mod_bottom_10 : decode b_Mod_bottom 10 = .ok (.sipush 255, 3) := by decide +kernel
theorem d_Mod_bottom_13 : decode b_Mod_bottom 13 = .ok (.iand, 1) := by decide +kernel
theorem d_Mod_bottom_14 : decode b_Mod_bottom 14 = .ok (.goto 8, 3) := by decide +kernel
theorem d_Mod_bottom_17 : decode b_Mod_bottom 17 = .ok (.iload_n 0, 1) := by decide +kernel
theorem d_Mod_bottom_18 : decode b_Mod_bottom 18 = .ok (.sipush 248, 3) := by decide +kernel
theorem d_Mod_bottom_21 : decode b_Mod_bottom 21 = .ok (.iand, 1) := by decide +kernel
theorem d_Mod_bottom_22 : decode b_Mod_bottom 22 = .ok (.ireturn, 1) := by decide +kernel
theorem d_Mod_scale_0 : decode b_Mod_scale 0 = .ok (.bipush 8, 2) := by decide +kernel
theorem d_Mod_scale_2 : decode b_Mod_scale 2 = .ok (.iload_n 0, 1) := by decide +kernel
theorem d_Mod_scale_3 : decode b_Mod_scale 3 = .ok (.bipush 8, 2) := by decide +kernel
theorem d_Mod_scale_5 : decode b_Mod_scale 5 = .ok (.ishr, 1) := by decide +kernel
theorem d_Mod_scale_6 : decode b_Mod_scale 6 = .ok (.bipush 7, 2) := by decide +kernel
theorem d_Mod_scale_8 : decode b_Mod_scale 8 = .ok (.iand, 1) := by decide +kernel
theorem d_Mod_scale_9 : decode b_Mod_scale 9 = .ok (.imul, 1) := by decide +kernel
theorem d_Mod_scale_10 : decode b_Mod_scale 10 = .ok (.iload_n 0, 1) := by decide +kernel
theorem d_Mod_scale_11 : decode b_Mod_scale 11 = .ok (.bipush 7, 2) := by decide +kernel
theorem d_Mod_scale_13 : decode b_Mod_scale 13 = .ok (.iand, 1) := by decide +kernel
theorem d_Mod_scale_14 : decode b_Mod_scale 14 = .ok (.iadd, 1) := by decide +kernel
theorem d_Mod_scale_15 : decode b_Mod_scale 15 = .ok (.istore_n 1, 1) := by decide +kernel
theorem d_Mod_scale_16 : decode b_Mod_scale 16 = .ok (.iload_n 0, 1) := by decide +kernel
theorem d_Mod_scale_17 : decode b_Mod_scale 17 = .ok (.bipush 14, 2) := by decide +kernel
theorem d_Mod_scale_19 : decode b_Mod_scale 19 = .ok (.ishr, 1) := by decide +kernel
theorem d_Mod_scale_20 : decode b_Mod_scale 20 = .ok (.iconst 1, 1) := by decide +kernel
theorem d_Mod_scale_21 : decode b_Mod_scale 21 = .ok (.iand, 1) := by decide +kernel
theorem d_Mod_scale_22 : decode b_Mod_scale 22 = .ok (.ifCond .ne 7, 3) := by decide +kernel
theorem d_Mod_scale_25 : decode b_Mod_scale 25 = .ok (.iconst 0, 1) := by decide +kernel
theorem d_Mod_scale_26 : decode b_Mod_scale 26 = .ok (.goto 15, 3) := by decide +kernel
theorem d_Mod_scale_29 : decode b_Mod_scale 29 = .ok (.iload_n 1, 1) := by decide +kernel
theorem d_Mod_scale_30 : decode b_Mod_scale 30 = .ok (.bipush 26, 2) := by decide +kernel
theorem d_Mod_scale_32 : decode b_Mod_scale 32 = .ok (.if_icmp .ge 7, 3) := by decide +kernel
theorem d_Mod_scale_35 : decode b_Mod_scale 35 = .ok (.iload_n 1, 1) := by decide +kernel
theorem d_Mod_scale_36 : decode b_Mod_scale 36 = .ok (.goto 5, 3) := by decide +kernel
theorem d_Mod_scale_39 : decode b_Mod_scale 39 = .ok (.bipush 26, 2) := by decide +kernel
theorem d_Mod_scale_41 : decode b_Mod_scale 41 = .ok (.ireturn, 1) := by decide +kernel
theorem d_Mod_window_0 : decode b_Mod_window 0 = .ok (.iload_n 0, 1) := by decide +kernel
theorem d_Mod_window_1 : decode b_Mod_window 1 = .ok (.invokestatic 55, 3) := by decide +kernel
theorem d_Mod_window_4 : decode b_Mod_window 4 = .ok (.istore_n 2, 1) := by decide +kernel
theorem d_Mod_window_5 : decode b_Mod_window 5 = .ok (.lconst 1, 1) := by decide +kernel
theorem d_Mod_window_6 : decode b_Mod_window 6 = .ok (.iload_n 2, 1) := by decide +kernel
theorem d_Mod_window_7 : decode b_Mod_window 7 = .ok (.bipush 8, 2) := by decide +kernel
theorem d_Mod_window_9 : decode b_Mod_window 9 = .ok (.iadd, 1) := by decide +kernel
theorem d_Mod_window_10 : decode b_Mod_window 10 = .ok (.lshl, 1) := by decide +kernel
theorem d_Mod_window_11 : decode b_Mod_window 11 = .ok (.lstore_n 3, 1) := by decide +kernel
theorem d_Mod_window_12 : decode b_Mod_window 12 = .ok (.iload_n 0, 1) := by decide +kernel
theorem d_Mod_window_13 : decode b_Mod_window 13 = .ok (.invokestatic 45, 3) := by decide +kernel
theorem d_Mod_window_16 : decode b_Mod_window 16 = .ok (.bipush 32, 2) := by decide +kernel
theorem d_Mod_window_18 : decode b_Mod_window 18 = .ok (.idiv, 1) := by decide +kernel
theorem d_Mod_window_19 : decode b_Mod_window 19 = .ok (.bipush 7, 2) := by decide +kernel
theorem d_Mod_window_21 : decode b_Mod_window 21 = .ok (.iadd, 1) := by decide +kernel
theorem d_Mod_window_22 : decode b_Mod_window 22 = .ok (.bipush 8, 2) := by decide +kernel
theorem d_Mod_window_24 : decode b_Mod_window 24 = .ok (.irem, 1) := by decide +kernel
theorem d_Mod_window_25 : decode b_Mod_window 25 = .ok (.i2l, 1) := by decide +kernel
theorem d_Mod_window_26 : decode b_Mod_window 26 = .ok (.iload_n 2, 1) := by decide +kernel
theorem d_Mod_window_27 : decode b_Mod_window 27 = .ok (.iconst 5, 1) := by decide +kernel
theorem d_Mod_window_28 : decode b_Mod_window 28 = .ok (.iadd, 1) := by decide +kernel
theorem d_Mod_window_29 : decode b_Mod_window 29 = .ok (.lshl, 1) := by decide +kernel
theorem d_Mod_window_30 : decode b_Mod_window 30 = .ok (.lstore 5, 2) := by decide +kernel
theorem d_Mod_window_32 : decode b_Mod_window 32 = .ok (.iload_n 1, 1) := by decide +kernel
theorem d_Mod_window_33 : decode b_Mod_window 33 = .ok (.invokestatic 58, 3) := by decide +kernel
theorem d_Mod_window_36 : decode b_Mod_window 36 = .ok (.iload_n 1, 1) := by decide +kernel
theorem d_Mod_window_37 : decode b_Mod_window 37 = .ok (.invokestatic 58, 3) := by decide +kernel
theorem d_Mod_window_40 : decode b_Mod_window 40 = .ok (.lload 5, 2) := by decide +kernel
theorem d_Mod_window_42 : decode b_Mod_window 42 = .ok (.lsub, 1) := by decide +kernel
theorem d_Mod_window_43 : decode b_Mod_window 43 = .ok (.lload_n 3, 1) := by decide +kernel
theorem d_Mod_window_44 : decode b_Mod_window 44 = .ok (.invokestatic 49, 3) := by decide +kernel
theorem d_Mod_window_47 : decode b_Mod_window 47 = .ok (.lsub, 1) := by decide +kernel
theorem d_Mod_window_48 : decode b_Mod_window 48 = .ok (.lreturn, 1) := by decide +kernel
theorem d_Mod_inWindow_0 : decode b_Mod_inWindow 0 = .ok (.lconst 1, 1) := by decide +kernel
theorem d_Mod_inWindow_1 : decode b_Mod_inWindow 1 = .ok (.iload_n 1, 1) := by decide +kernel
theorem d_Mod_inWindow_2 : decode b_Mod_inWindow 2 = .ok (.bipush 8, 2) := by decide +kernel
theorem d_Mod_inWindow_4 : decode b_Mod_inWindow 4 = .ok (.iadd, 1) := by decide +kernel
theorem d_Mod_inWindow_5 : decode b_Mod_inWindow 5 = .ok (.lshl, 1) := by decide +kernel
theorem d_Mod_inWindow_6 : decode b_Mod_inWindow 6 = .ok (.lstore 4, 2) := by decide +kernel
theorem d_Mod_inWindow_8 : decode b_Mod_inWindow 8 = .ok (.iload_n 0, 1) := by decide +kernel
theorem d_Mod_inWindow_9 : decode b_Mod_inWindow 9 = .ok (.i2l, 1) := by decide +kernel
theorem d_Mod_inWindow_10 : decode b_Mod_inWindow 10 = .ok (.iload_n 1, 1) := by decide +kernel
theorem d_Mod_inWindow_11 : decode b_Mod_inWindow 11 = .ok (.lshl, 1) := by decide +kernel
theorem d_Mod_inWindow_12 : decode b_Mod_inWindow 12 = .ok (.lstore 6, 2) := by decide +kernel
theorem d_Mod_inWindow_14 : decode b_Mod_inWindow 14 = .ok (.lload_n 2, 1) := by decide +kernel
theorem d_Mod_inWindow_15 : decode b_Mod_inWindow 15 = .ok (.lload 6, 2) := by decide +kernel
theorem d_Mod_inWindow_17 : decode b_Mod_inWindow 17 = .ok (.lload_n 2, 1) := by decide +kernel
theorem d_Mod_inWindow_18 : decode b_Mod_inWindow 18 = .ok (.lsub, 1) := by decide +kernel
theorem d_Mod_inWindow_19 : decode b_Mod_inWindow 19 = .ok (.lload 4, 2) := by decide +kernel
theorem d_Mod_inWindow_21 : decode b_Mod_inWindow 21 = .ok (.invokestatic 49, 3) := by decide +kernel
theorem d_Mod_inWindow_24 : decode b_Mod_inWindow 24 = .ok (.ladd, 1) := by decide +kernel
theorem d_Mod_inWindow_25 : decode b_Mod_inWindow 25 = .ok (.lreturn, 1) := by decide +kernel
theorem d_Mod_top_0 : decode b_Mod_top 0 = .ok (.iload_n 0, 1) := by decide +kernel
theorem d_Mod_top_1 : decode b_Mod_top 1 = .ok (.invokestatic 70, 3) := by decide +kernel
theorem d_Mod_top_4 : decode b_Mod_top 4 = .ok (.iload_n 0, 1) := by decide +kernel
theorem d_Mod_top_5 : decode b_Mod_top 5 = .ok (.invokestatic 55, 3) := by decide +kernel
theorem d_Mod_top_8 : decode b_Mod_top 8 = .ok (.iload_n 0, 1) := by decide +kernel
theorem d_Mod_top_9 : decode b_Mod_top 9 = .ok (.iload_n 1, 1) := by decide +kernel
theorem d_Mod_top_10 : decode b_Mod_top 10 = .ok (.invokestatic 62, 3) := by decide +kernel
theorem d_Mod_top_13 : decode b_Mod_top 13 = .ok (.invokestatic 66, 3) := by decide +kernel
theorem d_Mod_top_16 : decode b_Mod_top 16 = .ok (.ldc2_w 73, 3) := by decide +kernel
theorem d_Mod_top_19 : decode b_Mod_top 19 = .ok (.land, 1) := by decide +kernel
theorem d_Mod_top_20 : decode b_Mod_top 20 = .ok (.lstore_n 2, 1) := by decide +kernel
theorem d_Mod_top_21 : decode b_Mod_top 21 = .ok (.iload_n 0, 1) := by decide +kernel
theorem d_Mod_top_22 : decode b_Mod_top 22 = .ok (.iload_n 1, 1) := by decide +kernel
theorem d_Mod_top_23 : decode b_Mod_top 23 = .ok (.invokestatic 75, 3) := by decide +kernel
theorem d_Mod_top_26 : decode b_Mod_top 26 = .ok (.lstore 4, 2) := by decide +kernel
theorem d_Mod_top_28 : decode b_Mod_top 28 = .ok (.lload_n 2, 1) := by decide +kernel
theorem d_Mod_top_29 : decode b_Mod_top 29 = .ok (.bipush 31, 2) := by decide +kernel
theorem d_Mod_top_31 : decode b_Mod_top 31 = .ok (.lshr, 1) := by decide +kernel
theorem d_Mod_top_32 : decode b_Mod_top 32 = .ok (.l2i, 1) := by decide +kernel
theorem d_Mod_top_33 : decode b_Mod_top 33 = .ok (.lload 4, 2) := by decide +kernel
theorem d_Mod_top_35 : decode b_Mod_top 35 = .ok (.bipush 31, 2) := by decide +kernel
theorem d_Mod_top_37 : decode b_Mod_top 37 = .ok (.lshr, 1) := by decide +kernel
theorem d_Mod_top_38 : decode b_Mod_top 38 = .ok (.l2i, 1) := by decide +kernel
theorem d_Mod_top_39 : decode b_Mod_top 39 = .ok (.isub, 1) := by decide +kernel
theorem d_Mod_top_40 : decode b_Mod_top 40 = .ok (.iconst 3, 1) := by decide +kernel
theorem d_Mod_top_41 : decode b_Mod_top 41 = .ok (.iand, 1) := by decide +kernel
theorem d_Mod_top_42 : decode b_Mod_top 42 = .ok (.istore 6, 2) := by decide +kernel
theorem d_Mod_top_44 : decode b_Mod_top 44 = .ok (.iload_n 0, 1) := by decide +kernel
theorem d_Mod_top_45 : decode b_Mod_top 45 = .ok (.invokestatic 55, 3) := by decide +kernel
theorem d_Mod_top_48 : decode b_Mod_top 48 = .ok (.bipush 25, 2) := by decide +kernel
theorem d_Mod_top_50 : decode b_Mod_top 50 = .ok (.if_icmp .ge 17, 3) := by decide +kernel
theorem d_Mod_top_53 : decode b_Mod_top 53 = .ok (.iload 6, 2) := by decide +kernel
theorem d_Mod_top_55 : decode b_Mod_top 55 = .ok (.iconst 1, 1) := by decide +kernel
theorem d_Mod_top_56 : decode b_Mod_top 56 = .ok (.if_icmp .le 11, 3) := by decide +kernel
theorem d_Mod_top_59 : decode b_Mod_top 59 = .ok (.lload_n 2, 1) := by decide +kernel
theorem d_Mod_top_60 : decode b_Mod_top 60 = .ok (.ldc2_w 78, 3) := by decide +kernel
theorem d_Mod_top_63 : decode b_Mod_top 63 = .ok (.lxor, 1) := by decide +kernel
theorem d_Mod_top_64 : decode b_Mod_top 64 = .ok (.goto 4, 3) := by decide +kernel
theorem d_Mod_top_67 : decode b_Mod_top 67 = .ok (.lload_n 2, 1) := by decide +kernel
theorem d_Mod_top_68 : decode b_Mod_top 68 = .ok (.lreturn, 1) := by decide +kernel
theorem d_Mod_roof_0 : decode b_Mod_roof 0 = .ok (.iload_n 0, 1) := by decide +kernel
theorem d_Mod_roof_1 : decode b_Mod_roof 1 = .ok (.bipush 14, 2) := by decide +kernel
theorem d_Mod_roof_3 : decode b_Mod_roof 3 = .ok (.ishr, 1) := by decide +kernel
theorem d_Mod_roof_4 : decode b_Mod_roof 4 = .ok (.iconst 1, 1) := by decide +kernel
theorem d_Mod_roof_5 : decode b_Mod_roof 5 = .ok (.iand, 1) := by decide +kernel
theorem d_Mod_roof_6 : decode b_Mod_roof 6 = .ok (.istore_n 1, 1) := by decide +kernel
theorem d_Mod_roof_7 : decode b_Mod_roof 7 = .ok (.iload_n 1, 1) := by decide +kernel
theorem d_Mod_roof_8 : decode b_Mod_roof 8 = .ok (.ifCond .ne 13, 3) := by decide +kernel
theorem d_Mod_roof_11 : decode b_Mod_roof 11 = .ok (.iload_n 0, 1) := by decide +kernel
theorem d_Mod_roof_12 : decode b_Mod_roof 12 = .ok (.bipush 8, 2) := by decide +kernel
theorem d_Mod_roof_14 : decode b_Mod_roof 14 = .ok (.ishr, 1) := by decide +kernel
theorem d_Mod_roof_15 : decode b_Mod_roof 15 = .ok (.bipush 63, 2) := by decide +kernel
theorem d_Mod_roof_17 : decode b_Mod_roof 17 = .ok (.iand, 1) := by decide +kernel
theorem d_Mod_roof_18 : decode b_Mod_roof 18 = .ok (.goto 10, 3) := by decide +kernel
theorem d_Mod_roof_21 : decode b_Mod_roof 21 = .ok (.iload_n 0, 1) := by decide +kernel
theorem d_Mod_roof_22 : decode b_Mod_roof 22 = .ok (.bipush 8, 2) := by decide +kernel
theorem d_Mod_roof_24 : decode b_Mod_roof 24 = .ok (.ishr, 1) := by decide +kernel
theorem d_Mod_roof_25 : decode b_Mod_roof 25 = .ok (.bipush 56, 2) := by decide +kernel
theorem d_Mod_roof_27 : decode b_Mod_roof 27 = .ok (.iand, 1) := by decide +kernel
theorem d_Mod_roof_28 : decode b_Mod_roof 28 = .ok (.istore_n 2, 1) := by decide +kernel
theorem d_Mod_roof_29 : decode b_Mod_roof 29 = .ok (.iload_n 0, 1) := by decide +kernel
theorem d_Mod_roof_30 : decode b_Mod_roof 30 = .ok (.invokestatic 45, 3) := by decide +kernel
theorem d_Mod_roof_33 : decode b_Mod_roof 33 = .ok (.istore_n 3, 1) := by decide +kernel
theorem d_Mod_roof_34 : decode b_Mod_roof 34 = .ok (.iload_n 3, 1) := by decide +kernel
theorem d_Mod_roof_35 : decode b_Mod_roof 35 = .ok (.bipush 6, 2) := by decide +kernel
theorem d_Mod_roof_37 : decode b_Mod_roof 37 = .ok (.ishr, 1) := by decide +kernel
theorem d_Mod_roof_38 : decode b_Mod_roof 38 = .ok (.iload_n 2, 1) := by decide +kernel
theorem d_Mod_roof_39 : decode b_Mod_roof 39 = .ok (.iload_n 3, 1) := by decide +kernel
theorem d_Mod_roof_40 : decode b_Mod_roof 40 = .ok (.bipush 63, 2) := by decide +kernel
theorem d_Mod_roof_42 : decode b_Mod_roof 42 = .ok (.iand, 1) := by decide +kernel
theorem d_Mod_roof_43 : decode b_Mod_roof 43 = .ok (.if_icmp .ge 7, 3) := by decide +kernel
theorem d_Mod_roof_46 : decode b_Mod_roof 46 = .ok (.iconst 1, 1) := by decide +kernel
theorem d_Mod_roof_47 : decode b_Mod_roof 47 = .ok (.goto 4, 3) := by decide +kernel
theorem d_Mod_roof_50 : decode b_Mod_roof 50 = .ok (.iconst 0, 1) := by decide +kernel
theorem d_Mod_roof_51 : decode b_Mod_roof 51 = .ok (.iadd, 1) := by decide +kernel
theorem d_Mod_roof_52 : decode b_Mod_roof 52 = .ok (.iload_n 1, 1) := by decide +kernel
theorem d_Mod_roof_53 : decode b_Mod_roof 53 = .ok (.iadd, 1) := by decide +kernel
theorem d_Mod_roof_54 : decode b_Mod_roof 54 = .ok (.istore 4, 2) := by decide +kernel
theorem d_Mod_roof_56 : decode b_Mod_roof 56 = .ok (.iload 4, 2) := by decide +kernel
theorem d_Mod_roof_58 : decode b_Mod_roof 58 = .ok (.iconst 3, 1) := by decide +kernel
theorem d_Mod_roof_59 : decode b_Mod_roof 59 = .ok (.iand, 1) := by decide +kernel
theorem d_Mod_roof_60 : decode b_Mod_roof 60 = .ok (.bipush 6, 2) := by decide +kernel
theorem d_Mod_roof_62 : decode b_Mod_roof 62 = .ok (.ishl, 1) := by decide +kernel
theorem d_Mod_roof_63 : decode b_Mod_roof 63 = .ok (.iload_n 2, 1) := by decide +kernel
theorem d_Mod_roof_64 : decode b_Mod_roof 64 = .ok (.ior, 1) := by decide +kernel
theorem d_Mod_roof_65 : decode b_Mod_roof 65 = .ok (.ireturn, 1) := by decide +kernel
theorem d_Mod_put_0 : decode b_Mod_put 0 = .ok (.aload_n 0, 1) := by decide +kernel
theorem d_Mod_put_1 : decode b_Mod_put 1 = .ok (.iload_n 1, 1) := by decide +kernel
theorem d_Mod_put_2 : decode b_Mod_put 2 = .ok (.iconst 1, 1) := by decide +kernel
theorem d_Mod_put_3 : decode b_Mod_put 3 = .ok (.if_icmp .lt 9, 3) := by decide +kernel
theorem d_Mod_put_6 : decode b_Mod_put 6 = .ok (.iload_n 1, 1) := by decide +kernel
theorem d_Mod_put_7 : decode b_Mod_put 7 = .ok (.bipush 31, 2) := by decide +kernel
theorem d_Mod_put_9 : decode b_Mod_put 9 = .ok (.if_icmp .le 7, 3) := by decide +kernel
theorem d_Mod_put_12 : decode b_Mod_put 12 = .ok (.iconst 1, 1) := by decide +kernel
theorem d_Mod_put_13 : decode b_Mod_put 13 = .ok (.goto 4, 3) := by decide +kernel
theorem d_Mod_put_16 : decode b_Mod_put 16 = .ok (.iconst 0, 1) := by decide +kernel
theorem d_Mod_put_17 : decode b_Mod_put 17 = .ok (.putfield 37, 3) := by decide +kernel
theorem d_Mod_put_20 : decode b_Mod_put 20 = .ok (.aload_n 0, 1) := by decide +kernel
theorem d_Mod_put_21 : decode b_Mod_put 21 = .ok (.getfield 37, 3) := by decide +kernel
theorem d_Mod_put_24 : decode b_Mod_put 24 = .ok (.ifCond .ne 14, 3) := by decide +kernel
theorem d_Mod_put_27 : decode b_Mod_put 27 = .ok (.aload_n 0, 1) := by decide +kernel
theorem d_Mod_put_28 : decode b_Mod_put 28 = .ok (.iload_n 1, 1) := by decide +kernel
theorem d_Mod_put_29 : decode b_Mod_put 29 = .ok (.iconst 0, 1) := by decide +kernel
theorem d_Mod_put_30 : decode b_Mod_put 30 = .ok (.iload_n 2, 1) := by decide +kernel
theorem d_Mod_put_31 : decode b_Mod_put 31 = .ok (.iload_n 3, 1) := by decide +kernel
theorem d_Mod_put_32 : decode b_Mod_put 32 = .ok (.ldc 36, 2) := by decide +kernel
theorem d_Mod_put_34 : decode b_Mod_put 34 = .ok (.ixor, 1) := by decide +kernel
theorem d_Mod_put_35 : decode b_Mod_put 35 = .ok (.invokevirtual 100, 3) := by decide +kernel
theorem d_Mod_put_38 : decode b_Mod_put 38 = .ok (.return_, 1) := by decide +kernel
theorem d_Mod_run_0 : decode b_Mod_run 0 = .ok (.iload_n 1, 1) := by decide +kernel
theorem d_Mod_run_1 : decode b_Mod_run 1 = .ok (.iconst 1, 1) := by decide +kernel
theorem d_Mod_run_2 : decode b_Mod_run 2 = .ok (.if_icmp .lt 10, 3) := by decide +kernel
theorem d_Mod_run_5 : decode b_Mod_run 5 = .ok (.iload_n 1, 1) := by decide +kernel
theorem d_Mod_run_6 : decode b_Mod_run 6 = .ok (.sipush 10000, 3) := by decide +kernel
theorem d_Mod_run_9 : decode b_Mod_run 9 = .ok (.if_icmp .le 9, 3) := by decide +kernel
theorem d_Mod_run_12 : decode b_Mod_run 12 = .ok (.aload_n 0, 1) := by decide +kernel
theorem d_Mod_run_13 : decode b_Mod_run 13 = .ok (.iconst 1, 1) := by decide +kernel
theorem d_Mod_run_14 : decode b_Mod_run 14 = .ok (.invokevirtual 245, 3) := by decide +kernel
theorem d_Mod_run_17 : decode b_Mod_run 17 = .ok (.ireturn, 1) := by decide +kernel
theorem d_Mod_run_18 : decode b_Mod_run 18 = .ok (.aload_n 0, 1) := by decide +kernel
theorem d_Mod_run_19 : decode b_Mod_run 19 = .ok (.getfield 156, 3) := by decide +kernel
theorem d_Mod_run_22 : decode b_Mod_run 22 = .ok (.ifCond .eq 9, 3) := by decide +kernel
theorem d_Mod_run_25 : decode b_Mod_run 25 = .ok (.aload_n 0, 1) := by decide +kernel
theorem d_Mod_run_26 : decode b_Mod_run 26 = .ok (.iconst 2, 1) := by decide +kernel
theorem d_Mod_run_27 : decode b_Mod_run 27 = .ok (.invokevirtual 245, 3) := by decide +kernel
theorem d_Mod_run_30 : decode b_Mod_run 30 = .ok (.ireturn, 1) := by decide +kernel
theorem d_Mod_run_31 : decode b_Mod_run 31 = .ok (.aload_n 0, 1) := by decide +kernel
theorem d_Mod_run_32 : decode b_Mod_run 32 = .ok (.iconst 0, 1) := by decide +kernel
theorem d_Mod_run_33 : decode b_Mod_run 33 = .ok (.putfield 37, 3) := by decide +kernel
theorem d_Mod_run_36 : decode b_Mod_run 36 = .ok (.iconst 0, 1) := by decide +kernel
theorem d_Mod_run_37 : decode b_Mod_run 37 = .ok (.istore_n 2, 1) := by decide +kernel
theorem d_Mod_run_38 : decode b_Mod_run 38 = .ok (.iload_n 2, 1) := by decide +kernel
theorem d_Mod_run_39 : decode b_Mod_run 39 = .ok (.iload_n 1, 1) := by decide +kernel
theorem d_Mod_run_40 : decode b_Mod_run 40 = .ok (.if_icmp .ge 20, 3) := by decide +kernel
theorem d_Mod_run_43 : decode b_Mod_run 43 = .ok (.aload_n 0, 1) := by decide +kernel
theorem d_Mod_run_44 : decode b_Mod_run 44 = .ok (.getfield 156, 3) := by decide +kernel
theorem d_Mod_run_47 : decode b_Mod_run 47 = .ok (.ifCond .ne 13, 3) := by decide +kernel
theorem d_Mod_run_50 : decode b_Mod_run 50 = .ok (.aload_n 0, 1) := by decide +kernel
theorem d_Mod_run_51 : decode b_Mod_run 51 = .ok (.invokevirtual 252, 3) := by decide +kernel
theorem d_Mod_run_54 : decode b_Mod_run 54 = .ok (.iinc 2 1, 3) := by decide +kernel
theorem d_Mod_run_57 : decode b_Mod_run 57 = .ok (.goto (-19), 3) := by decide +kernel
theorem d_Mod_run_60 : decode b_Mod_run 60 = .ok (.iload_n 2, 1) := by decide +kernel
theorem d_Mod_run_61 : decode b_Mod_run 61 = .ok (.ireturn, 1) := by decide +kernel
theorem d_Mod_step_0 : decode b_Mod_step 0 = .ok (.aload_n 0, 1) := by decide +kernel
theorem d_Mod_step_1 : decode b_Mod_step 1 = .ok (.dup, 1) := by decide +kernel
theorem d_Mod_step_2 : decode b_Mod_step 2 = .ok (.getfield 162, 3) := by decide +kernel
theorem d_Mod_step_5 : decode b_Mod_step 5 = .ok (.iconst 1, 1) := by decide +kernel
theorem d_Mod_step_6 : decode b_Mod_step 6 = .ok (.iadd, 1) := by decide +kernel
theorem d_Mod_step_7 : decode b_Mod_step 7 = .ok (.putfield 162, 3) := by decide +kernel
theorem d_Mod_step_10 : decode b_Mod_step 10 = .ok (.aload_n 0, 1) := by decide +kernel
theorem d_Mod_step_11 : decode b_Mod_step 11 = .ok (.invokevirtual 152, 3) := by decide +kernel
theorem d_Mod_step_14 : decode b_Mod_step 14 = .ok (.istore_n 1, 1) := by decide +kernel
theorem d_Mod_step_15 : decode b_Mod_step 15 = .ok (.iload_n 1, 1) := by decide +kernel
theorem d_Mod_step_16 : decode b_Mod_step 16 = .ok (.ifCond .lt 14, 3) := by decide +kernel
theorem d_Mod_step_19 : decode b_Mod_step 19 = .ok (.aload_n 0, 1) := by decide +kernel
theorem d_Mod_step_20 : decode b_Mod_step 20 = .ok (.iload_n 1, 1) := by decide +kernel
theorem d_Mod_step_21 : decode b_Mod_step 21 = .ok (.aload_n 0, 1) := by decide +kernel
theorem d_Mod_step_22 : decode b_Mod_step 22 = .ok (.getfield 134, 3) := by decide +kernel
theorem d_Mod_step_25 : decode b_Mod_step 25 = .ok (.invokevirtual 159, 3) := by decide +kernel
theorem d_Mod_step_28 : decode b_Mod_step 28 = .ok (.pop, 1) := by decide +kernel
theorem d_Mod_step_29 : decode b_Mod_step 29 = .ok (.return_, 1) := by decide +kernel
theorem d_Mod_step_30 : decode b_Mod_step 30 = .ok (.aload_n 0, 1) := by decide +kernel
theorem d_Mod_step_31 : decode b_Mod_step 31 = .ok (.aload_n 0, 1) := by decide +kernel
theorem d_Mod_step_32 : decode b_Mod_step 32 = .ok (.getfield 20, 3) := by decide +kernel
theorem d_Mod_step_35 : decode b_Mod_step 35 = .ok (.aload_n 0, 1) := by decide +kernel
theorem d_Mod_step_36 : decode b_Mod_step 36 = .ok (.getfield 13, 3) := by decide +kernel
theorem d_Mod_step_39 : decode b_Mod_step 39 = .ok (.bipush 32, 2) := by decide +kernel
theorem d_Mod_step_41 : decode b_Mod_step 41 = .ok (.iaload, 1) := by decide +kernel
theorem d_Mod_step_42 : decode b_Mod_step 42 = .ok (.iconst 4, 1) := by decide +kernel
theorem d_Mod_step_43 : decode b_Mod_step 43 = .ok (.idiv, 1) := by decide +kernel
theorem d_Mod_step_44 : decode b_Mod_step 44 = .ok (.iaload, 1) := by decide +kernel
theorem d_Mod_step_45 : decode b_Mod_step 45 = .ok (.invokevirtual 165, 3) := by decide +kernel
theorem d_Mod_step_48 : decode b_Mod_step 48 = .ok (.ifCond .eq 20, 3) := by decide +kernel
theorem d_Mod_step_51 : decode b_Mod_step 51 = .ok (.aload_n 0, 1) := by decide +kernel
theorem d_Mod_step_52 : decode b_Mod_step 52 = .ok (.bipush 32, 2) := by decide +kernel
theorem d_Mod_step_54 : decode b_Mod_step 54 = .ok (.aload_n 0, 1) := by decide +kernel
theorem d_Mod_step_55 : decode b_Mod_step 55 = .ok (.getfield 13, 3) := by decide +kernel
theorem d_Mod_step_58 : decode b_Mod_step 58 = .ok (.bipush 32, 2) := by decide +kernel
theorem d_Mod_step_60 : decode b_Mod_step 60 = .ok (.iaload, 1) := by decide +kernel
theorem d_Mod_step_61 : decode b_Mod_step 61 = .ok (.iconst 4, 1) := by decide +kernel
theorem d_Mod_step_62 : decode b_Mod_step 62 = .ok (.iadd, 1) := by decide +kernel
theorem d_Mod_step_63 : decode b_Mod_step 63 = .ok (.bipush 32, 2) := by decide +kernel
theorem d_Mod_step_65 : decode b_Mod_step 65 = .ok (.invokevirtual 168, 3) := by decide +kernel
theorem d_Mod_step_68 : decode b_Mod_step 68 = .ok (.return_, 1) := by decide +kernel
theorem d_Mod_stop_0 : decode b_Mod_stop 0 = .ok (.aload_n 0, 1) := by decide +kernel
theorem d_Mod_stop_1 : decode b_Mod_stop 1 = .ok (.getfield 13, 3) := by decide +kernel
theorem d_Mod_stop_4 : decode b_Mod_stop 4 = .ok (.bipush 32, 2) := by decide +kernel
theorem d_Mod_stop_6 : decode b_Mod_stop 6 = .ok (.iaload, 1) := by decide +kernel
theorem d_Mod_stop_7 : decode b_Mod_stop 7 = .ok (.istore_n 1, 1) := by decide +kernel
theorem d_Mod_stop_8 : decode b_Mod_stop 8 = .ok (.aload_n 0, 1) := by decide +kernel
theorem d_Mod_stop_9 : decode b_Mod_stop 9 = .ok (.bipush 32, 2) := by decide +kernel
theorem d_Mod_stop_11 : decode b_Mod_stop 11 = .ok (.iload_n 1, 1) := by decide +kernel
theorem d_Mod_stop_12 : decode b_Mod_stop 12 = .ok (.invokestatic 58, 3) := by decide +kernel
theorem d_Mod_stop_15 : decode b_Mod_stop 15 = .ok (.iconst 4, 1) := by decide +kernel
theorem d_Mod_stop_16 : decode b_Mod_stop 16 = .ok (.iconst 1, 1) := by decide +kernel
theorem d_Mod_stop_17 : decode b_Mod_stop 17 = .ok (.iconst 0, 1) := by decide +kernel
theorem d_Mod_stop_18 : decode b_Mod_stop 18 = .ok (.invokevirtual 130, 3) := by decide +kernel
theorem d_Mod_stop_21 : decode b_Mod_stop 21 = .ok (.istore_n 2, 1) := by decide +kernel
theorem d_Mod_stop_22 : decode b_Mod_stop 22 = .ok (.aload_n 0, 1) := by decide +kernel
theorem d_Mod_stop_23 : decode b_Mod_stop 23 = .ok (.iload_n 2, 1) := by decide +kernel
theorem d_Mod_stop_24 : decode b_Mod_stop 24 = .ok (.ifCond .le 11, 3) := by decide +kernel
theorem d_Mod_stop_27 : decode b_Mod_stop 27 = .ok (.sipush 1024, 3) := by decide +kernel
theorem d_Mod_stop_30 : decode b_Mod_stop 30 = .ok (.iload_n 2, 1) := by decide +kernel
theorem d_Mod_stop_31 : decode b_Mod_stop 31 = .ok (.iadd, 1) := by decide +kernel
theorem d_Mod_stop_32 : decode b_Mod_stop 32 = .ok (.goto 4, 3) := by decide +kernel
theorem d_Mod_stop_35 : decode b_Mod_stop 35 = .ok (.iload_n 1, 1) := by decide +kernel
theorem d_Mod_stop_36 : decode b_Mod_stop 36 = .ok (.putfield 134, 3) := by decide +kernel
theorem d_Mod_stop_39 : decode b_Mod_stop 39 = .ok (.iload_n 2, 1) := by decide +kernel
theorem d_Mod_stop_40 : decode b_Mod_stop 40 = .ok (.ifCond .le 8, 3) := by decide +kernel
theorem d_Mod_stop_43 : decode b_Mod_stop 43 = .ok (.bipush 28, 2) := by decide +kernel
theorem d_Mod_stop_45 : decode b_Mod_stop 45 = .ok (.goto 29, 3) := by decide +kernel
theorem d_Mod_stop_48 : decode b_Mod_stop 48 = .ok (.iload_n 1, 1) := by decide +kernel
theorem d_Mod_stop_49 : decode b_Mod_stop 49 = .ok (.iconst 3, 1) := by decide +kernel
theorem d_Mod_stop_50 : decode b_Mod_stop 50 = .ok (.iand, 1) := by decide +kernel
theorem d_Mod_stop_51 : decode b_Mod_stop 51 = .ok (.ifCond .eq 7, 3) := by decide +kernel
theorem d_Mod_stop_54 : decode b_Mod_stop 54 = .ok (.iconst 0, 1) := by decide +kernel
theorem d_Mod_stop_55 : decode b_Mod_stop 55 = .ok (.goto 19, 3) := by decide +kernel
theorem d_Mod_stop_58 : decode b_Mod_stop 58 = .ok (.iload_n 1, 1) := by decide +kernel
theorem d_Mod_stop_59 : decode b_Mod_stop 59 = .ok (.invokestatic 58, 3) := by decide +kernel
theorem d_Mod_stop_62 : decode b_Mod_stop 62 = .ok (.ldc2_w 137, 3) := by decide +kernel
theorem d_Mod_stop_65 : decode b_Mod_stop 65 = .ok (.lcmp, 1) := by decide +kernel
theorem d_Mod_stop_66 : decode b_Mod_stop 66 = .ok (.ifCond .lt 7, 3) := by decide +kernel
theorem d_Mod_stop_69 : decode b_Mod_stop 69 = .ok (.iconst 1, 1) := by decide +kernel
theorem d_Mod_stop_70 : decode b_Mod_stop 70 = .ok (.goto 4, 3) := by decide +kernel
theorem d_Mod_stop_73 : decode b_Mod_stop 73 = .ok (.iconst (-1), 1) := by decide +kernel
theorem d_Mod_stop_74 : decode b_Mod_stop 74 = .ok (.ireturn, 1) := by decide +kernel
theorem d_Mod_reach_0 : decode b_Mod_reach 0 = .ok (.aload_n 0, 1) := by decide +kernel
theorem d_Mod_reach_1 : decode b_Mod_reach 1 = .ok (.getfield 7, 3) := by decide +kernel
theorem d_Mod_reach_4 : decode b_Mod_reach 4 = .ok (.iload_n 1, 1) := by decide +kernel
theorem d_Mod_reach_5 : decode b_Mod_reach 5 = .ok (.baload, 1) := by decide +kernel
theorem d_Mod_reach_6 : decode b_Mod_reach 6 = .ok (.ifCond .ne 5, 3) := by decide +kernel
theorem d_Mod_reach_9 : decode b_Mod_reach 9 = .ok (.iconst 2, 1) := by decide +kernel
theorem d_Mod_reach_10 : decode b_Mod_reach 10 = .ok (.ireturn, 1) := by decide +kernel
theorem d_Mod_reach_11 : decode b_Mod_reach 11 = .ok (.aload_n 0, 1) := by decide +kernel
theorem d_Mod_reach_12 : decode b_Mod_reach 12 = .ok (.iload_n 1, 1) := by decide +kernel
theorem d_Mod_reach_13 : decode b_Mod_reach 13 = .ok (.invokevirtual 118, 3) := by decide +kernel
theorem d_Mod_reach_16 : decode b_Mod_reach 16 = .ok (.ifCond .ne 5, 3) := by decide +kernel
theorem d_Mod_reach_19 : decode b_Mod_reach 19 = .ok (.iconst 3, 1) := by decide +kernel
theorem d_Mod_reach_20 : decode b_Mod_reach 20 = .ok (.ireturn, 1) := by decide +kernel
theorem d_Mod_reach_21 : decode b_Mod_reach 21 = .ok (.aload_n 0, 1) := by decide +kernel
theorem d_Mod_reach_22 : decode b_Mod_reach 22 = .ok (.iload_n 1, 1) := by decide +kernel
theorem d_Mod_reach_23 : decode b_Mod_reach 23 = .ok (.iload 5, 2) := by decide +kernel
theorem d_Mod_reach_25 : decode b_Mod_reach 25 = .ok (.invokevirtual 122, 3) := by decide +kernel
theorem d_Mod_reach_28 : decode b_Mod_reach 28 = .ok (.ifCond .ne 9, 3) := by decide +kernel
theorem d_Mod_reach_31 : decode b_Mod_reach 31 = .ok (.bipush 16, 2) := by decide +kernel
theorem d_Mod_reach_33 : decode b_Mod_reach 33 = .ok (.iload 5, 2) := by decide +kernel
theorem d_Mod_reach_35 : decode b_Mod_reach 35 = .ok (.iadd, 1) := by decide +kernel
theorem d_Mod_reach_36 : decode b_Mod_reach 36 = .ok (.ireturn, 1) := by decide +kernel
theorem d_Mod_reach_37 : decode b_Mod_reach 37 = .ok (.iload 6, 2) := by decide +kernel
theorem d_Mod_reach_39 : decode b_Mod_reach 39 = .ok (.ifCond .le 25, 3) := by decide +kernel
theorem d_Mod_reach_42 : decode b_Mod_reach 42 = .ok (.aload_n 0, 1) := by decide +kernel
theorem d_Mod_reach_43 : decode b_Mod_reach 43 = .ok (.getfield 7, 3) := by decide +kernel
theorem d_Mod_reach_46 : decode b_Mod_reach 46 = .ok (.iload 6, 2) := by decide +kernel
theorem d_Mod_reach_48 : decode b_Mod_reach 48 = .ok (.baload, 1) := by decide +kernel
theorem d_Mod_reach_49 : decode b_Mod_reach 49 = .ok (.ifCond .eq 15, 3) := by decide +kernel
theorem d_Mod_reach_52 : decode b_Mod_reach 52 = .ok (.aload_n 0, 1) := by decide +kernel
theorem d_Mod_reach_53 : decode b_Mod_reach 53 = .ok (.iload_n 1, 1) := by decide +kernel
theorem d_Mod_reach_54 : decode b_Mod_reach 54 = .ok (.iconst 5, 1) := by decide +kernel
theorem d_Mod_reach_55 : decode b_Mod_reach 55 = .ok (.invokevirtual 122, 3) := by decide +kernel
theorem d_Mod_reach_58 : decode b_Mod_reach 58 = .ok (.ifCond .ne 6, 3) := by decide +kernel
theorem d_Mod_reach_61 : decode b_Mod_reach 61 = .ok (.bipush 21, 2) := by decide +kernel
theorem d_Mod_reach_63 : decode b_Mod_reach 63 = .ok (.ireturn, 1) := by decide +kernel
theorem d_Mod_reach_64 : decode b_Mod_reach 64 = .ok (.iload 6, 2) := by decide +kernel
theorem d_Mod_reach_66 : decode b_Mod_reach 66 = .ok (.ifCond .le 36, 3) := by decide +kernel
theorem d_Mod_reach_69 : decode b_Mod_reach 69 = .ok (.aload_n 0, 1) := by decide +kernel
theorem d_Mod_reach_70 : decode b_Mod_reach 70 = .ok (.getfield 7, 3) := by decide +kernel
theorem d_Mod_reach_73 : decode b_Mod_reach 73 = .ok (.iload 6, 2) := by decide +kernel
theorem d_Mod_reach_75 : decode b_Mod_reach 75 = .ok (.baload, 1) := by decide +kernel
theorem d_Mod_reach_76 : decode b_Mod_reach 76 = .ok (.ifCond .eq 26, 3) := by decide +kernel
theorem d_Mod_reach_79 : decode b_Mod_reach 79 = .ok (.aload_n 0, 1) := by decide +kernel
theorem d_Mod_reach_80 : decode b_Mod_reach 80 = .ok (.iload 6, 2) := by decide +kernel
theorem d_Mod_reach_82 : decode b_Mod_reach 82 = .ok (.iconst 0, 1) := by decide +kernel
theorem d_Mod_reach_83 : decode b_Mod_reach 83 = .ok (.invokevirtual 122, 3) := by decide +kernel
theorem d_Mod_reach_86 : decode b_Mod_reach 86 = .ok (.ifCond .ne 16, 3) := by decide +kernel
theorem d_Mod_reach_89 : decode b_Mod_reach 89 = .ok (.aload_n 0, 1) := by decide +kernel
theorem d_Mod_reach_90 : decode b_Mod_reach 90 = .ok (.iload_n 1, 1) := by decide +kernel
theorem d_Mod_reach_91 : decode b_Mod_reach 91 = .ok (.bipush 6, 2) := by decide +kernel
theorem d_Mod_reach_93 : decode b_Mod_reach 93 = .ok (.invokevirtual 122, 3) := by decide +kernel
theorem d_Mod_reach_96 : decode b_Mod_reach 96 = .ok (.ifCond .ne 6, 3) := by decide +kernel
theorem d_Mod_reach_99 : decode b_Mod_reach 99 = .ok (.bipush 22, 2) := by decide +kernel
theorem d_Mod_reach_101 : decode b_Mod_reach 101 = .ok (.ireturn, 1) := by decide +kernel
theorem d_Mod_reach_102 : decode b_Mod_reach 102 = .ok (.aload_n 0, 1) := by decide +kernel
theorem d_Mod_reach_103 : decode b_Mod_reach 103 = .ok (.iload_n 1, 1) := by decide +kernel
theorem d_Mod_reach_104 : decode b_Mod_reach 104 = .ok (.lload_n 2, 1) := by decide +kernel
theorem d_Mod_reach_105 : decode b_Mod_reach 105 = .ok (.iload 4, 2) := by decide +kernel
theorem d_Mod_reach_107 : decode b_Mod_reach 107 = .ok (.invokevirtual 126, 3) := by decide +kernel
theorem d_Mod_reach_110 : decode b_Mod_reach 110 = .ok (.ifCond .eq 7, 3) := by decide +kernel
theorem d_Mod_reach_113 : decode b_Mod_reach 113 = .ok (.iconst 0, 1) := by decide +kernel
theorem d_Mod_reach_114 : decode b_Mod_reach 114 = .ok (.goto 4, 3) := by decide +kernel
theorem d_Mod_reach_117 : decode b_Mod_reach 117 = .ok (.iconst 1, 1) := by decide +kernel
theorem d_Mod_reach_118 : decode b_Mod_reach 118 = .ok (.ireturn, 1) := by decide +kernel
theorem d_Mod_isOpen_0 : decode b_Mod_isOpen 0 = .ok (.aload_n 0, 1) := by decide +kernel
theorem d_Mod_isOpen_1 : decode b_Mod_isOpen 1 = .ok (.getfield 17, 3) := by decide +kernel
theorem d_Mod_isOpen_4 : decode b_Mod_isOpen 4 = .ok (.iload_n 1, 1) := by decide +kernel
theorem d_Mod_isOpen_5 : decode b_Mod_isOpen 5 = .ok (.iaload, 1) := by decide +kernel
theorem d_Mod_isOpen_6 : decode b_Mod_isOpen 6 = .ok (.invokestatic 104, 3) := by decide +kernel
theorem d_Mod_isOpen_9 : decode b_Mod_isOpen 9 = .ok (.bipush 15, 2) := by decide +kernel
theorem d_Mod_isOpen_11 : decode b_Mod_isOpen 11 = .ok (.if_icmp .ne 7, 3) := by decide +kernel
theorem d_Mod_isOpen_14 : decode b_Mod_isOpen 14 = .ok (.iconst 1, 1) := by decide +kernel
theorem d_Mod_isOpen_15 : decode b_Mod_isOpen 15 = .ok (.goto 4, 3) := by decide +kernel
theorem d_Mod_isOpen_18 : decode b_Mod_isOpen 18 = .ok (.iconst 0, 1) := by decide +kernel
theorem d_Mod_isOpen_19 : decode b_Mod_isOpen 19 = .ok (.ireturn, 1) := by decide +kernel
theorem d_Mod_type_0 : decode b_Mod_type 0 = .ok (.iload_n 0, 1) := by decide +kernel
theorem d_Mod_type_1 : decode b_Mod_type 1 = .ok (.bipush 16, 2) := by decide +kernel
theorem d_Mod_type_3 : decode b_Mod_type 3 = .ok (.ishr, 1) := by decide +kernel
theorem d_Mod_type_4 : decode b_Mod_type 4 = .ok (.bipush 15, 2) := by decide +kernel
theorem d_Mod_type_6 : decode b_Mod_type 6 = .ok (.iand, 1) := by decide +kernel
theorem d_Mod_type_7 : decode b_Mod_type 7 = .ok (.ireturn, 1) := by decide +kernel
theorem d_Mod_has_0 : decode b_Mod_has 0 = .ok (.aload_n 0, 1) := by decide +kernel
theorem d_Mod_has_1 : decode b_Mod_has 1 = .ok (.getfield 17, 3) := by decide +kernel
theorem d_Mod_has_4 : decode b_Mod_has 4 = .ok (.iload_n 1, 1) := by decide +kernel
theorem d_Mod_has_5 : decode b_Mod_has 5 = .ok (.iaload, 1) := by decide +kernel
theorem d_Mod_has_6 : decode b_Mod_has 6 = .ok (.invokestatic 111, 3) := by decide +kernel
theorem d_Mod_has_9 : decode b_Mod_has 9 = .ok (.iload_n 2, 1) := by decide +kernel
theorem d_Mod_has_10 : decode b_Mod_has 10 = .ok (.ishr, 1) := by decide +kernel
theorem d_Mod_has_11 : decode b_Mod_has 11 = .ok (.iconst 1, 1) := by decide +kernel
theorem d_Mod_has_12 : decode b_Mod_has 12 = .ok (.iand, 1) := by decide +kernel
theorem d_Mod_has_13 : decode b_Mod_has 13 = .ok (.iconst 1, 1) := by decide +kernel
theorem d_Mod_has_14 : decode b_Mod_has 14 = .ok (.if_icmp .ne 7, 3) := by decide +kernel
theorem d_Mod_has_17 : decode b_Mod_has 17 = .ok (.iconst 1, 1) := by decide +kernel
theorem d_Mod_has_18 : decode b_Mod_has 18 = .ok (.goto 4, 3) := by decide +kernel
theorem d_Mod_has_21 : decode b_Mod_has 21 = .ok (.iconst 0, 1) := by decide +kernel
theorem d_Mod_has_22 : decode b_Mod_has 22 = .ok (.ireturn, 1) := by decide +kernel
theorem d_Mod_perms_0 : decode b_Mod_perms 0 = .ok (.iload_n 0, 1) := by decide +kernel
theorem d_Mod_perms_1 : decode b_Mod_perms 1 = .ok (.bipush 20, 2) := by decide +kernel
theorem d_Mod_perms_3 : decode b_Mod_perms 3 = .ok (.iushr, 1) := by decide +kernel
theorem d_Mod_perms_4 : decode b_Mod_perms 4 = .ok (.ireturn, 1) := by decide +kernel
theorem d_Mod_holds_0 : decode b_Mod_holds 0 = .ok (.aload_n 0, 1) := by decide +kernel
theorem d_Mod_holds_1 : decode b_Mod_holds 1 = .ok (.getfield 17, 3) := by decide +kernel
theorem d_Mod_holds_4 : decode b_Mod_holds 4 = .ok (.iload_n 1, 1) := by decide +kernel
theorem d_Mod_holds_5 : decode b_Mod_holds 5 = .ok (.iaload, 1) := by decide +kernel
theorem d_Mod_holds_6 : decode b_Mod_holds 6 = .ok (.aload_n 0, 1) := by decide +kernel
theorem d_Mod_holds_7 : decode b_Mod_holds 7 = .ok (.getfield 13, 3) := by decide +kernel
theorem d_Mod_holds_10 : decode b_Mod_holds 10 = .ok (.iload_n 1, 1) := by decide +kernel
theorem d_Mod_holds_11 : decode b_Mod_holds 11 = .ok (.iaload, 1) := by decide +kernel
theorem d_Mod_holds_12 : decode b_Mod_holds 12 = .ok (.lload_n 2, 1) := by decide +kernel
theorem d_Mod_holds_13 : decode b_Mod_holds 13 = .ok (.iload 4, 2) := by decide +kernel
theorem d_Mod_holds_15 : decode b_Mod_holds 15 = .ok (.invokestatic 114, 3) := by decide +kernel
theorem d_Mod_holds_18 : decode b_Mod_holds 18 = .ok (.ireturn, 1) := by decide +kernel
theorem d_Mod_isIn_0 : decode b_Mod_isIn 0 = .ok (.iload_n 0, 1) := by decide +kernel
theorem d_Mod_isIn_1 : decode b_Mod_isIn 1 = .ok (.iload_n 1, 1) := by decide +kernel
theorem d_Mod_isIn_2 : decode b_Mod_isIn 2 = .ok (.invokestatic 75, 3) := by decide +kernel
theorem d_Mod_isIn_5 : decode b_Mod_isIn 5 = .ok (.lload_n 2, 1) := by decide +kernel
theorem d_Mod_isIn_6 : decode b_Mod_isIn 6 = .ok (.lcmp, 1) := by decide +kernel
theorem d_Mod_isIn_7 : decode b_Mod_isIn 7 = .ok (.ifCond .gt 21, 3) := by decide +kernel
theorem d_Mod_isIn_10 : decode b_Mod_isIn 10 = .ok (.lload_n 2, 1) := by decide +kernel
theorem d_Mod_isIn_11 : decode b_Mod_isIn 11 = .ok (.iload 4, 2) := by decide +kernel
theorem d_Mod_isIn_13 : decode b_Mod_isIn 13 = .ok (.i2l, 1) := by decide +kernel
theorem d_Mod_isIn_14 : decode b_Mod_isIn 14 = .ok (.ladd, 1) := by decide +kernel
theorem d_Mod_isIn_15 : decode b_Mod_isIn 15 = .ok (.iload_n 0, 1) := by decide +kernel
theorem d_Mod_isIn_16 : decode b_Mod_isIn 16 = .ok (.iload_n 1, 1) := by decide +kernel
theorem d_Mod_isIn_17 : decode b_Mod_isIn 17 = .ok (.invokestatic 80, 3) := by decide +kernel
theorem d_Mod_isIn_20 : decode b_Mod_isIn 20 = .ok (.lcmp, 1) := by decide +kernel
theorem d_Mod_isIn_21 : decode b_Mod_isIn 21 = .ok (.ifCond .gt 7, 3) := by decide +kernel
theorem d_Mod_isIn_24 : decode b_Mod_isIn 24 = .ok (.iconst 1, 1) := by decide +kernel
theorem d_Mod_isIn_25 : decode b_Mod_isIn 25 = .ok (.goto 4, 3) := by decide +kernel
theorem d_Mod_isIn_28 : decode b_Mod_isIn 28 = .ok (.iconst 0, 1) := by decide +kernel
theorem d_Mod_isIn_29 : decode b_Mod_isIn 29 = .ok (.ireturn, 1) := by decide +kernel
theorem d_Mod_trap_0 : decode b_Mod_trap 0 = .ok (.aload_n 0, 1) := by decide +kernel
theorem d_Mod_trap_1 : decode b_Mod_trap 1 = .ok (.bipush 32, 2) := by decide +kernel
theorem d_Mod_trap_3 : decode b_Mod_trap 3 = .ok (.bipush 36, 2) := by decide +kernel
theorem d_Mod_trap_5 : decode b_Mod_trap 5 = .ok (.invokevirtual 139, 3) := by decide +kernel
theorem d_Mod_trap_8 : decode b_Mod_trap 8 = .ok (.aload_n 0, 1) := by decide +kernel
theorem d_Mod_trap_9 : decode b_Mod_trap 9 = .ok (.iload_n 1, 1) := by decide +kernel
theorem d_Mod_trap_10 : decode b_Mod_trap 10 = .ok (.putfield 143, 3) := by decide +kernel
theorem d_Mod_trap_13 : decode b_Mod_trap 13 = .ok (.aload_n 0, 1) := by decide +kernel
theorem d_Mod_trap_14 : decode b_Mod_trap 14 = .ok (.iload_n 2, 1) := by decide +kernel
theorem d_Mod_trap_15 : decode b_Mod_trap 15 = .ok (.putfield 146, 3) := by decide +kernel
theorem d_Mod_trap_18 : decode b_Mod_trap 18 = .ok (.aload_n 0, 1) := by decide +kernel
theorem d_Mod_trap_19 : decode b_Mod_trap 19 = .ok (.bipush 33, 2) := by decide +kernel
theorem d_Mod_trap_21 : decode b_Mod_trap 21 = .ok (.bipush 32, 2) := by decide +kernel
theorem d_Mod_trap_23 : decode b_Mod_trap 23 = .ok (.invokevirtual 139, 3) := by decide +kernel
theorem d_Mod_trap_26 : decode b_Mod_trap 26 = .ok (.aload_n 0, 1) := by decide +kernel
theorem d_Mod_trap_27 : decode b_Mod_trap 27 = .ok (.dup, 1) := by decide +kernel
theorem d_Mod_trap_28 : decode b_Mod_trap 28 = .ok (.getfield 149, 3) := by decide +kernel
theorem d_Mod_trap_31 : decode b_Mod_trap 31 = .ok (.iconst 1, 1) := by decide +kernel
theorem d_Mod_trap_32 : decode b_Mod_trap 32 = .ok (.iadd, 1) := by decide +kernel
theorem d_Mod_trap_33 : decode b_Mod_trap 33 = .ok (.putfield 149, 3) := by decide +kernel
theorem d_Mod_trap_36 : decode b_Mod_trap 36 = .ok (.aload_n 0, 1) := by decide +kernel
theorem d_Mod_trap_37 : decode b_Mod_trap 37 = .ok (.invokevirtual 152, 3) := by decide +kernel
theorem d_Mod_trap_40 : decode b_Mod_trap 40 = .ok (.ifCond .lt 8, 3) := by decide +kernel
theorem d_Mod_trap_43 : decode b_Mod_trap 43 = .ok (.aload_n 0, 1) := by decide +kernel
theorem d_Mod_trap_44 : decode b_Mod_trap 44 = .ok (.iconst 1, 1) := by decide +kernel
theorem d_Mod_trap_45 : decode b_Mod_trap 45 = .ok (.putfield 156, 3) := by decide +kernel
theorem d_Mod_trap_48 : decode b_Mod_trap 48 = .ok (.iconst 0, 1) := by decide +kernel
theorem d_Mod_trap_49 : decode b_Mod_trap 49 = .ok (.ireturn, 1) := by decide +kernel
theorem d_Mod_copy_0 : decode b_Mod_copy 0 = .ok (.aload_n 0, 1) := by decide +kernel
theorem d_Mod_copy_1 : decode b_Mod_copy 1 = .ok (.iload_n 2, 1) := by decide +kernel
theorem d_Mod_copy_2 : decode b_Mod_copy 2 = .ok (.aload_n 0, 1) := by decide +kernel
theorem d_Mod_copy_3 : decode b_Mod_copy 3 = .ok (.getfield 7, 3) := by decide +kernel
theorem d_Mod_copy_6 : decode b_Mod_copy 6 = .ok (.iload_n 1, 1) := by decide +kernel
theorem d_Mod_copy_7 : decode b_Mod_copy 7 = .ok (.baload, 1) := by decide +kernel
theorem d_Mod_copy_8 : decode b_Mod_copy 8 = .ok (.aload_n 0, 1) := by decide +kernel
theorem d_Mod_copy_9 : decode b_Mod_copy 9 = .ok (.getfield 13, 3) := by decide +kernel
theorem d_Mod_copy_12 : decode b_Mod_copy 12 = .ok (.iload_n 1, 1) := by decide +kernel
theorem d_Mod_copy_13 : decode b_Mod_copy 13 = .ok (.iaload, 1) := by decide +kernel
theorem d_Mod_copy_14 : decode b_Mod_copy 14 = .ok (.aload_n 0, 1) := by decide +kernel
theorem d_Mod_copy_15 : decode b_Mod_copy 15 = .ok (.getfield 17, 3) := by decide +kernel
theorem d_Mod_copy_18 : decode b_Mod_copy 18 = .ok (.iload_n 1, 1) := by decide +kernel
theorem d_Mod_copy_19 : decode b_Mod_copy 19 = .ok (.iaload, 1) := by decide +kernel
theorem d_Mod_copy_20 : decode b_Mod_copy 20 = .ok (.invokevirtual 100, 3) := by decide +kernel
theorem d_Mod_copy_23 : decode b_Mod_copy 23 = .ok (.return_, 1) := by decide +kernel
theorem d_Mod_instruction_0 : decode b_Mod_instruction 0 = .ok (.iload_n 1, 1) := by decide +kernel
theorem d_Mod_instruction_1 : decode b_Mod_instruction 1 = .ok (.bipush 7, 2) := by decide +kernel
theorem d_Mod_instruction_3 : decode b_Mod_instruction 3 = .ok (.ishr, 1) := by decide +kernel
theorem d_Mod_instruction_4 : decode b_Mod_instruction 4 = .ok (.bipush 31, 2) := by decide +kernel
theorem d_Mod_instruction_6 : decode b_Mod_instruction 6 = .ok (.iand, 1) := by decide +kernel
theorem d_Mod_instruction_7 : decode b_Mod_instruction 7 = .ok (.istore_n 2, 1) := by decide +kernel
theorem d_Mod_instruction_8 : decode b_Mod_instruction 8 = .ok (.iload_n 1, 1) := by decide +kernel
theorem d_Mod_instruction_9 : decode b_Mod_instruction 9 = .ok (.bipush 12, 2) := by decide +kernel
theorem d_Mod_instruction_11 : decode b_Mod_instruction 11 = .ok (.ishr, 1) := by decide +kernel
theorem d_Mod_instruction_12 : decode b_Mod_instruction 12 = .ok (.bipush 7, 2) := by decide +kernel
theorem d_Mod_instruction_14 : decode b_Mod_instruction 14 = .ok (.iand, 1) := by decide +kernel
theorem d_Mod_instruction_15 : decode b_Mod_instruction 15 = .ok (.istore_n 3, 1) := by decide +kernel
theorem d_Mod_instruction_16 : decode b_Mod_instruction 16 = .ok (.iload_n 1, 1) := by decide +kernel
theorem d_Mod_instruction_17 : decode b_Mod_instruction 17 = .ok (.bipush 15, 2) := by decide +kernel
theorem d_Mod_instruction_19 : decode b_Mod_instruction 19 = .ok (.ishr, 1) := by decide +kernel
theorem d_Mod_instruction_20 : decode b_Mod_instruction 20 = .ok (.bipush 31, 2) := by decide +kernel
theorem d_Mod_instruction_22 : decode b_Mod_instruction 22 = .ok (.iand, 1) := by decide +kernel
theorem d_Mod_instruction_23 : decode b_Mod_instruction 23 = .ok (.istore 4, 2) := by decide +kernel
theorem d_Mod_instruction_25 : decode b_Mod_instruction 25 = .ok (.iload_n 1, 1) := by decide +kernel
theorem d_Mod_instruction_26 : decode b_Mod_instruction 26 = .ok (.bipush 20, 2) := by decide +kernel
theorem d_Mod_instruction_28 : decode b_Mod_instruction 28 = .ok (.ishr, 1) := by decide +kernel
theorem d_Mod_instruction_29 : decode b_Mod_instruction 29 = .ok (.bipush 31, 2) := by decide +kernel
theorem d_Mod_instruction_31 : decode b_Mod_instruction 31 = .ok (.iand, 1) := by decide +kernel
theorem d_Mod_instruction_32 : decode b_Mod_instruction 32 = .ok (.istore 5, 2) := by decide +kernel
theorem d_Mod_instruction_34 : decode b_Mod_instruction 34 = .ok (.iload_n 1, 1) := by decide +kernel
theorem d_Mod_instruction_35 : decode b_Mod_instruction 35 = .ok (.bipush 25, 2) := by decide +kernel
theorem d_Mod_instruction_37 : decode b_Mod_instruction 37 = .ok (.iushr, 1) := by decide +kernel
theorem d_Mod_instruction_38 : decode b_Mod_instruction 38 = .ok (.istore 6, 2) := by decide +kernel
theorem d_Mod_instruction_40 : decode b_Mod_instruction 40 = .ok (.aload_n 0, 1) := by decide +kernel
theorem d_Mod_instruction_41 : decode b_Mod_instruction 41 = .ok (.getfield 13, 3) := by decide +kernel
theorem d_Mod_instruction_44 : decode b_Mod_instruction 44 = .ok (.iload 4, 2) := by decide +kernel
theorem d_Mod_instruction_46 : decode b_Mod_instruction 46 = .ok (.iaload, 1) := by decide +kernel
theorem d_Mod_instruction_47 : decode b_Mod_instruction 47 = .ok (.istore 7, 2) := by decide +kernel
theorem d_Mod_instruction_49 : decode b_Mod_instruction 49 = .ok (.aload_n 0, 1) := by decide +kernel
theorem d_Mod_instruction_50 : decode b_Mod_instruction 50 = .ok (.getfield 13, 3) := by decide +kernel
theorem d_Mod_instruction_53 : decode b_Mod_instruction 53 = .ok (.iload 5, 2) := by decide +kernel
theorem d_Mod_instruction_55 : decode b_Mod_instruction 55 = .ok (.iaload, 1) := by decide +kernel
theorem d_Mod_instruction_56 : decode b_Mod_instruction 56 = .ok (.istore 8, 2) := by decide +kernel
theorem d_Mod_instruction_58 : decode b_Mod_instruction 58 = .ok (.aload_n 0, 1) := by decide +kernel
theorem d_Mod_instruction_59 : decode b_Mod_instruction 59 = .ok (.getfield 13, 3) := by decide +kernel
theorem d_Mod_instruction_62 : decode b_Mod_instruction 62 = .ok (.bipush 32, 2) := by decide +kernel
theorem d_Mod_instruction_64 : decode b_Mod_instruction 64 = .ok (.iaload, 1) := by decide +kernel
theorem d_Mod_instruction_65 : decode b_Mod_instruction 65 = .ok (.istore 9, 2) := by decide +kernel
theorem d_Mod_instruction_67 : decode b_Mod_instruction 67 = .ok (.iload_n 1, 1) := by decide +kernel
theorem d_Mod_instruction_68 : decode b_Mod_instruction 68 = .ok (.bipush 127, 2) := by decide +kernel
theorem d_Mod_instruction_70 : decode b_Mod_instruction 70 = .ok (.iand, 1) := by decide +kernel
theorem d_Mod_instruction_71 : decode b_Mod_instruction 71 = .ok (.lookupswitch 709 #[(3, 438), (15, 664), (19, 503), (23, 117), (35, 468), (51, 590), (55, 105), (91, 695), (99, 239), (103, 204), (111, 142), (115, 683)], 105) := by decide +kernel
theorem d_Mod_instruction_176 : decode b_Mod_instruction 176 = .ok (.aload_n 0, 1) := by decide +kernel
theorem d_Mod_instruction_177 : decode b_Mod_instruction 177 = .ok (.iload_n 2, 1) := by decide +kernel
theorem d_Mod_instruction_178 : decode b_Mod_instruction 178 = .ok (.iload_n 1, 1) := by decide +kernel
theorem d_Mod_instruction_179 : decode b_Mod_instruction 179 = .ok (.sipush (-4096), 3) := by decide +kernel
theorem d_Mod_instruction_182 : decode b_Mod_instruction 182 = .ok (.iand, 1) := by decide +kernel
theorem d_Mod_instruction_183 : decode b_Mod_instruction 183 = .ok (.invokevirtual 172, 3) := by decide +kernel
theorem d_Mod_instruction_186 : decode b_Mod_instruction 186 = .ok (.iconst 1, 1) := by decide +kernel
theorem d_Mod_instruction_187 : decode b_Mod_instruction 187 = .ok (.ireturn, 1) := by decide +kernel
theorem d_Mod_instruction_188 : decode b_Mod_instruction 188 = .ok (.aload_n 0, 1) := by decide +kernel
theorem d_Mod_instruction_189 : decode b_Mod_instruction 189 = .ok (.bipush 32, 2) := by decide +kernel
theorem d_Mod_instruction_191 : decode b_Mod_instruction 191 = .ok (.iload 9, 2) := by decide +kernel
theorem d_Mod_instruction_193 : decode b_Mod_instruction 193 = .ok (.iload_n 1, 1) := by decide +kernel
theorem d_Mod_instruction_194 : decode b_Mod_instruction 194 = .ok (.sipush (-4096), 3) := by decide +kernel
theorem d_Mod_instruction_197 : decode b_Mod_instruction 197 = .ok (.iand, 1) := by decide +kernel
theorem d_Mod_instruction_198 : decode b_Mod_instruction 198 = .ok (.iadd, 1) := by decide +kernel
theorem d_Mod_instruction_199 : decode b_Mod_instruction 199 = .ok (.bipush 37, 2) := by decide +kernel
theorem d_Mod_instruction_201 : decode b_Mod_instruction 201 = .ok (.invokevirtual 168, 3) := by decide +kernel
theorem d_Mod_instruction_204 : decode b_Mod_instruction 204 = .ok (.aload_n 0, 1) := by decide +kernel
theorem d_Mod_instruction_205 : decode b_Mod_instruction 205 = .ok (.bipush 37, 2) := by decide +kernel
theorem d_Mod_instruction_207 : decode b_Mod_instruction 207 = .ok (.iload_n 2, 1) := by decide +kernel
theorem d_Mod_instruction_208 : decode b_Mod_instruction 208 = .ok (.invokevirtual 139, 3) := by decide +kernel
theorem d_Mod_instruction_211 : decode b_Mod_instruction 211 = .ok (.iconst 1, 1) := by decide +kernel
theorem d_Mod_instruction_212 : decode b_Mod_instruction 212 = .ok (.ireturn, 1) := by decide +kernel
theorem d_Mod_instruction_213 : decode b_Mod_instruction 213 = .ok (.iload 9, 2) := by decide +kernel
theorem d_Mod_instruction_215 : decode b_Mod_instruction 215 = .ok (.iload_n 1, 1) := by decide +kernel
theorem d_Mod_instruction_216 : decode b_Mod_instruction 216 = .ok (.bipush 31, 2) := by decide +kernel
theorem d_Mod_instruction_218 : decode b_Mod_instruction 218 = .ok (.ishr, 1) := by decide +kernel
theorem d_Mod_instruction_219 : decode b_Mod_instruction 219 = .ok (.bipush 20, 2) := by decide +kernel
theorem d_Mod_instruction_221 : decode b_Mod_instruction 221 = .ok (.ishl, 1) := by decide +kernel
theorem d_Mod_instruction_222 : decode b_Mod_instruction 222 = .ok (.iload_n 1, 1) := by decide +kernel
theorem d_Mod_instruction_223 : decode b_Mod_instruction 223 = .ok (.ldc 175, 2) := by decide +kernel
theorem d_Mod_instruction_225 : decode b_Mod_instruction 225 = .ok (.iand, 1) := by decide +kernel
theorem d_Mod_instruction_226 : decode b_Mod_instruction 226 = .ok (.ior, 1) := by decide +kernel
theorem d_Mod_instruction_227 : decode b_Mod_instruction 227 = .ok (.iload_n 1, 1) := by decide +kernel
theorem d_Mod_instruction_228 : decode b_Mod_instruction 228 = .ok (.bipush 20, 2) := by decide +kernel
theorem d_Mod_instruction_230 : decode b_Mod_instruction 230 = .ok (.ishr, 1) := by decide +kernel
theorem d_Mod_instruction_231 : decode b_Mod_instruction 231 = .ok (.iconst 1, 1) := by decide +kernel
theorem d_Mod_instruction_232 : decode b_Mod_instruction 232 = .ok (.iand, 1) := by decide +kernel
theorem d_Mod_instruction_233 : decode b_Mod_instruction 233 = .ok (.bipush 11, 2) := by decide +kernel
theorem d_Mod_instruction_235 : decode b_Mod_instruction 235 = .ok (.ishl, 1) := by decide +kernel
theorem d_Mod_instruction_236 : decode b_Mod_instruction 236 = .ok (.ior, 1) := by decide +kernel
theorem d_Mod_instruction_237 : decode b_Mod_instruction 237 = .ok (.iload_n 1, 1) := by decide +kernel
theorem d_Mod_instruction_238 : decode b_Mod_instruction 238 = .ok (.bipush 21, 2) := by decide +kernel
theorem d_Mod_instruction_240 : decode b_Mod_instruction 240 = .ok (.ishr, 1) := by decide +kernel
theorem d_Mod_instruction_241 : decode b_Mod_instruction 241 = .ok (.sipush 1023, 3) := by decide +kernel
theorem d_Mod_instruction_244 : decode b_Mod_instruction 244 = .ok (.iand, 1) := by decide +kernel
theorem d_Mod_instruction_245 : decode b_Mod_instruction 245 = .ok (.iconst 1, 1) := by decide +kernel
theorem d_Mod_instruction_246 : decode b_Mod_instruction 246 = .ok (.ishl, 1) := by decide +kernel
theorem d_Mod_instruction_247 : decode b_Mod_instruction 247 = .ok (.ior, 1) := by decide +kernel
theorem d_Mod_instruction_248 : decode b_Mod_instruction 248 = .ok (.iadd, 1) := by decide +kernel
theorem d_Mod_instruction_249 : decode b_Mod_instruction 249 = .ok (.istore 10, 2) := by decide +kernel
theorem d_Mod_instruction_251 : decode b_Mod_instruction 251 = .ok (.aload_n 0, 1) := by decide +kernel
theorem d_Mod_instruction_252 : decode b_Mod_instruction 252 = .ok (.invokevirtual 176, 3) := by decide +kernel
theorem d_Mod_instruction_255 : decode b_Mod_instruction 255 = .ok (.aload_n 0, 1) := by decide +kernel
theorem d_Mod_instruction_256 : decode b_Mod_instruction 256 = .ok (.iload 10, 2) := by decide +kernel
theorem d_Mod_instruction_258 : decode b_Mod_instruction 258 = .ok (.invokevirtual 179, 3) := by decide +kernel
theorem d_Mod_instruction_261 : decode b_Mod_instruction 261 = .ok (.ifCond .ne 5, 3) := by decide +kernel
theorem d_Mod_instruction_264 : decode b_Mod_instruction 264 = .ok (.iconst 0, 1) := by decide +kernel
theorem d_Mod_instruction_265 : decode b_Mod_instruction 265 = .ok (.ireturn, 1) := by decide +kernel
theorem d_Mod_instruction_266 : decode b_Mod_instruction 266 = .ok (.aload_n 0, 1) := by decide +kernel
theorem d_Mod_instruction_267 : decode b_Mod_instruction 267 = .ok (.bipush 38, 2) := by decide +kernel
theorem d_Mod_instruction_269 : decode b_Mod_instruction 269 = .ok (.iload_n 2, 1) := by decide +kernel
theorem d_Mod_instruction_270 : decode b_Mod_instruction 270 = .ok (.invokevirtual 139, 3) := by decide +kernel
theorem d_Mod_instruction_273 : decode b_Mod_instruction 273 = .ok (.iconst 0, 1) := by decide +kernel
theorem d_Mod_instruction_274 : decode b_Mod_instruction 274 = .ok (.ireturn, 1) := by decide +kernel
theorem d_Mod_instruction_275 : decode b_Mod_instruction 275 = .ok (.iload_n 3, 1) := by decide +kernel
theorem d_Mod_instruction_276 : decode b_Mod_instruction 276 = .ok (.ifCond .ne 27, 3) := by decide +kernel
theorem d_Mod_instruction_279 : decode b_Mod_instruction 279 = .ok (.aload_n 0, 1) := by decide +kernel
theorem d_Mod_instruction_280 : decode b_Mod_instruction 280 = .ok (.iload_n 2, 1) := by decide +kernel
theorem d_Mod_instruction_281 : decode b_Mod_instruction 281 = .ok (.iload 4, 2) := by decide +kernel
theorem d_Mod_instruction_283 : decode b_Mod_instruction 283 = .ok (.iload 7, 2) := by decide +kernel
theorem d_Mod_instruction_285 : decode b_Mod_instruction 285 = .ok (.iload_n 1, 1) := by decide +kernel
theorem d_Mod_instruction_286 : decode b_Mod_instruction 286 = .ok (.bipush 20, 2) := by decide +kernel
theorem d_Mod_instruction_288 : decode b_Mod_instruction 288 = .ok (.ishr, 1) := by decide +kernel
theorem d_Mod_instruction_289 : decode b_Mod_instruction 289 = .ok (.iadd, 1) := by decide +kernel
theorem d_Mod_instruction_290 : decode b_Mod_instruction 290 = .ok (.bipush (-2), 2) := by decide +kernel
theorem d_Mod_instruction_292 : decode b_Mod_instruction 292 = .ok (.iand, 1) := by decide +kernel
theorem d_Mod_instruction_293 : decode b_Mod_instruction 293 = .ok (.iload_n 1, 1) := by decide +kernel
theorem d_Mod_instruction_294 : decode b_Mod_instruction 294 = .ok (.bipush 20, 2) := by decide +kernel
theorem d_Mod_instruction_296 : decode b_Mod_instruction 296 = .ok (.ishr, 1) := by decide +kernel
theorem d_Mod_instruction_297 : decode b_Mod_instruction 297 = .ok (.invokevirtual 182, 3) := by decide +kernel
theorem d_Mod_instruction_300 : decode b_Mod_instruction 300 = .ok (.goto 9, 3) := by decide +kernel
theorem d_Mod_instruction_303 : decode b_Mod_instruction 303 = .ok (.aload_n 0, 1) := by decide +kernel
theorem d_Mod_instruction_304 : decode b_Mod_instruction 304 = .ok (.iconst 2, 1) := by decide +kernel
theorem d_Mod_instruction_305 : decode b_Mod_instruction 305 = .ok (.iload_n 1, 1) := by decide +kernel
theorem d_Mod_instruction_306 : decode b_Mod_instruction 306 = .ok (.invokevirtual 159, 3) := by decide +kernel
theorem d_Mod_instruction_309 : decode b_Mod_instruction 309 = .ok (.ireturn, 1) := by decide +kernel
theorem d_Mod_instruction_310 : decode b_Mod_instruction 310 = .ok (.iload_n 3, 1) := by decide +kernel
theorem d_Mod_instruction_311 : decode b_Mod_instruction 311 = .ok (.iconst 2, 1) := by decide +kernel
theorem d_Mod_instruction_312 : decode b_Mod_instruction 312 = .ok (.if_icmp .eq 8, 3) := by decide +kernel
theorem d_Mod_instruction_315 : decode b_Mod_instruction 315 = .ok (.iload_n 3, 1) := by decide +kernel
theorem d_Mod_instruction_316 : decode b_Mod_instruction 316 = .ok (.iconst 3, 1) := by decide +kernel
theorem d_Mod_instruction_317 : decode b_Mod_instruction 317 = .ok (.if_icmp .ne 10, 3) := by decide +kernel
theorem d_Mod_instruction_320 : decode b_Mod_instruction 320 = .ok (.aload_n 0, 1) := by decide +kernel
theorem d_Mod_instruction_321 : decode b_Mod_instruction 321 = .ok (.iconst 2, 1) := by decide +kernel
theorem d_Mod_instruction_322 : decode b_Mod_instruction 322 = .ok (.iload_n 1, 1) := by decide +kernel
theorem d_Mod_instruction_323 : decode b_Mod_instruction 323 = .ok (.invokevirtual 159, 3) := by decide +kernel
theorem d_Mod_instruction_326 : decode b_Mod_instruction 326 = .ok (.ireturn, 1) := by decide +kernel
theorem d_Mod_instruction_327 : decode b_Mod_instruction 327 = .ok (.iload_n 3, 1) := by decide +kernel
theorem d_Mod_instruction_328 : decode b_Mod_instruction 328 = .ok (.ifCond .ne 18, 3) := by decide +kernel
theorem d_Mod_instruction_331 : decode b_Mod_instruction 331 = .ok (.iload 7, 2) := by decide +kernel
theorem d_Mod_instruction_333 : decode b_Mod_instruction 333 = .ok (.iload 8, 2) := by decide +kernel
theorem d_Mod_instruction_335 : decode b_Mod_instruction 335 = .ok (.if_icmp .ne 7, 3) := by decide +kernel
theorem d_Mod_instruction_338 : decode b_Mod_instruction 338 = .ok (.iconst 1, 1) := by decide +kernel
theorem d_Mod_instruction_339 : decode b_Mod_instruction 339 = .ok (.goto 114, 3) := by decide +kernel
theorem d_Mod_instruction_342 : decode b_Mod_instruction 342 = .ok (.iconst 0, 1) := by decide +kernel
theorem d_Mod_instruction_343 : decode b_Mod_instruction 343 = .ok (.goto 110, 3) := by decide +kernel
theorem d_Mod_instruction_346 : decode b_Mod_instruction 346 = .ok (.iload_n 3, 1) := by decide +kernel
theorem d_Mod_instruction_347 : decode b_Mod_instruction 347 = .ok (.iconst 1, 1) := by decide +kernel
theorem d_Mod_instruction_348 : decode b_Mod_instruction 348 = .ok (.if_icmp .ne 18, 3) := by decide +kernel
theorem d_Mod_instruction_351 : decode b_Mod_instruction 351 = .ok (.iload 7, 2) := by decide +kernel
theorem d_Mod_instruction_353 : decode b_Mod_instruction 353 = .ok (.iload 8, 2) := by decide +kernel
theorem d_Mod_instruction_355 : decode b_Mod_instruction 355 = .ok (.if_icmp .eq 7, 3) := by decide +kernel
theorem d_Mod_instruction_358 : decode b_Mod_instruction 358 = .ok (.iconst 1, 1) := by decide +kernel
theorem d_Mod_instruction_359 : decode b_Mod_instruction 359 = .ok (.goto 94, 3) := by decide +kernel
theorem d_Mod_instruction_362 : decode b_Mod_instruction 362 = .ok (.iconst 0, 1) := by decide +kernel
theorem d_Mod_instruction_363 : decode b_Mod_instruction 363 = .ok (.goto 90, 3) := by decide +kernel
theorem d_Mod_instruction_366 : decode b_Mod_instruction 366 = .ok (.iload_n 3, 1) := by decide +kernel
theorem d_Mod_instruction_367 : decode b_Mod_instruction 367 = .ok (.iconst 4, 1) := by decide +kernel
theorem d_Mod_instruction_368 : decode b_Mod_instruction 368 = .ok (.if_icmp .ne 18, 3) := by decide +kernel
theorem d_Mod_instruction_371 : decode b_Mod_instruction 371 = .ok (.iload 7, 2) := by decide +kernel
theorem d_Mod_instruction_373 : decode b_Mod_instruction 373 = .ok (.iload 8, 2) := by decide +kernel
theorem d_Mod_instruction_375 : decode b_Mod_instruction 375 = .ok (.if_icmp .ge 7, 3) := by decide +kernel
theorem d_Mod_instruction_378 : decode b_Mod_instruction 378 = .ok (.iconst 1, 1) := by decide +kernel
theorem d_Mod_instruction_379 : decode b_Mod_instruction 379 = .ok (.goto 74, 3) := by decide +kernel
theorem d_Mod_instruction_382 : decode b_Mod_instruction 382 = .ok (.iconst 0, 1) := by decide +kernel
theorem d_Mod_instruction_383 : decode b_Mod_instruction 383 = .ok (.goto 70, 3) := by decide +kernel
theorem d_Mod_instruction_386 : decode b_Mod_instruction 386 = .ok (.iload_n 3, 1) := by decide +kernel
theorem d_Mod_instruction_387 : decode b_Mod_instruction 387 = .ok (.iconst 5, 1) := by decide +kernel
theorem d_Mod_instruction_388 : decode b_Mod_instruction 388 = .ok (.if_icmp .ne 18, 3) := by decide +kernel
theorem d_Mod_instruction_391 : decode b_Mod_instruction 391 = .ok (.iload 7, 2) := by decide +kernel
theorem d_Mod_instruction_393 : decode b_Mod_instruction 393 = .ok (.iload 8, 2) := by decide +kernel
theorem d_Mod_instruction_395 : decode b_Mod_instruction 395 = .ok (.if_icmp .lt 7, 3) := by decide +kernel
theorem d_Mod_instruction_398 : decode b_Mod_instruction 398 = .ok (.iconst 1, 1) := by decide +kernel
theorem d_Mod_instruction_399 : decode b_Mod_instruction 399 = .ok (.goto 54, 3) := by decide +kernel
theorem d_Mod_instruction_402 : decode b_Mod_instruction 402 = .ok (.iconst 0, 1) := by decide +kernel
theorem d_Mod_instruction_403 : decode b_Mod_instruction 403 = .ok (.goto 50, 3) := by decide +kernel
theorem d_Mod_instruction_406 : decode b_Mod_instruction 406 = .ok (.iload_n 3, 1) := by decide +kernel
theorem d_Mod_instruction_407 : decode b_Mod_instruction 407 = .ok (.bipush 6, 2) := by decide +kernel
theorem d_Mod_instruction_409 : decode b_Mod_instruction 409 = .ok (.if_icmp .ne 25, 3) := by decide +kernel
theorem d_Mod_instruction_412 : decode b_Mod_instruction 412 = .ok (.iload 7, 2) := by decide +kernel
theorem d_Mod_instruction_414 : decode b_Mod_instruction 414 = .ok (.invokestatic 58, 3) := by decide +kernel
theorem d_Mod_instruction_417 : decode b_Mod_instruction 417 = .ok (.iload 8, 2) := by decide +kernel
theorem d_Mod_instruction_419 : decode b_Mod_instruction 419 = .ok (.invokestatic 58, 3) := by decide +kernel
theorem d_Mod_instruction_422 : decode b_Mod_instruction 422 = .ok (.lcmp, 1) := by decide +kernel
theorem d_Mod_instruction_423 : decode b_Mod_instruction 423 = .ok (.ifCond .ge 7, 3) := by decide +kernel
theorem d_Mod_instruction_426 : decode b_Mod_instruction 426 = .ok (.iconst 1, 1) := by decide +kernel
theorem d_Mod_instruction_427 : decode b_Mod_instruction 427 = .ok (.goto 26, 3) := by decide +kernel
theorem d_Mod_instruction_430 : decode b_Mod_instruction 430 = .ok (.iconst 0, 1) := by decide +kernel
theorem d_Mod_instruction_431 : decode b_Mod_instruction 431 = .ok (.goto 22, 3) := by decide +kernel
theorem d_Mod_instruction_434 : decode b_Mod_instruction 434 = .ok (.iload 7, 2) := by decide +kernel
theorem d_Mod_instruction_436 : decode b_Mod_instruction 436 = .ok (.invokestatic 58, 3) := by decide +kernel
theorem d_Mod_instruction_439 : decode b_Mod_instruction 439 = .ok (.iload 8, 2) := by decide +kernel
theorem d_Mod_instruction_441 : decode b_Mod_instruction 441 = .ok (.invokestatic 58, 3) := by decide +kernel
theorem d_Mod_instruction_444 : decode b_Mod_instruction 444 = .ok (.lcmp, 1) := by decide +kernel
theorem d_Mod_instruction_445 : decode b_Mod_instruction 445 = .ok (.ifCond .lt 7, 3) := by decide +kernel
theorem d_Mod_instruction_448 : decode b_Mod_instruction 448 = .ok (.iconst 1, 1) := by decide +kernel
theorem d_Mod_instruction_449 : decode b_Mod_instruction 449 = .ok (.goto 4, 3) := by decide +kernel
theorem d_Mod_instruction_452 : decode b_Mod_instruction 452 = .ok (.iconst 0, 1) := by decide +kernel
theorem d_Mod_instruction_453 : decode b_Mod_instruction 453 = .ok (.istore 10, 2) := by decide +kernel
theorem d_Mod_instruction_455 : decode b_Mod_instruction 455 = .ok (.iload 10, 2) := by decide +kernel
theorem d_Mod_instruction_457 : decode b_Mod_instruction 457 = .ok (.ifCond .ne 5, 3) := by decide +kernel
theorem d_Mod_instruction_460 : decode b_Mod_instruction 460 = .ok (.iconst 1, 1) := by decide +kernel
theorem d_Mod_instruction_461 : decode b_Mod_instruction 461 = .ok (.ireturn, 1) := by decide +kernel
theorem d_Mod_instruction_462 : decode b_Mod_instruction 462 = .ok (.aload_n 0, 1) := by decide +kernel
theorem d_Mod_instruction_463 : decode b_Mod_instruction 463 = .ok (.iload 9, 2) := by decide +kernel
theorem d_Mod_instruction_465 : decode b_Mod_instruction 465 = .ok (.iload_n 1, 1) := by decide +kernel
theorem d_Mod_instruction_466 : decode b_Mod_instruction 466 = .ok (.bipush 31, 2) := by decide +kernel
theorem d_Mod_instruction_468 : decode b_Mod_instruction 468 = .ok (.ishr, 1) := by decide +kernel
theorem d_Mod_instruction_469 : decode b_Mod_instruction 469 = .ok (.bipush 12, 2) := by decide +kernel
theorem d_Mod_instruction_471 : decode b_Mod_instruction 471 = .ok (.ishl, 1) := by decide +kernel
theorem d_Mod_instruction_472 : decode b_Mod_instruction 472 = .ok (.iload_n 1, 1) := by decide +kernel
theorem d_Mod_instruction_473 : decode b_Mod_instruction 473 = .ok (.bipush 7, 2) := by decide +kernel
theorem d_Mod_instruction_475 : decode b_Mod_instruction 475 = .ok (.ishr, 1) := by decide +kernel
theorem d_Mod_instruction_476 : decode b_Mod_instruction 476 = .ok (.iconst 1, 1) := by decide +kernel
theorem d_Mod_instruction_477 : decode b_Mod_instruction 477 = .ok (.iand, 1) := by decide +kernel
theorem d_Mod_instruction_478 : decode b_Mod_instruction 478 = .ok (.bipush 11, 2) := by decide +kernel
theorem d_Mod_instruction_480 : decode b_Mod_instruction 480 = .ok (.ishl, 1) := by decide +kernel
theorem d_Mod_instruction_481 : decode b_Mod_instruction 481 = .ok (.ior, 1) := by decide +kernel
theorem d_Mod_instruction_482 : decode b_Mod_instruction 482 = .ok (.iload_n 1, 1) := by decide +kernel
theorem d_Mod_instruction_483 : decode b_Mod_instruction 483 = .ok (.bipush 25, 2) := by decide +kernel
theorem d_Mod_instruction_485 : decode b_Mod_instruction 485 = .ok (.ishr, 1) := by decide +kernel
theorem d_Mod_instruction_486 : decode b_Mod_instruction 486 = .ok (.bipush 63, 2) := by decide +kernel
theorem d_Mod_instruction_488 : decode b_Mod_instruction 488 = .ok (.iand, 1) := by decide +kernel
theorem d_Mod_instruction_489 : decode b_Mod_instruction 489 = .ok (.iconst 5, 1) := by decide +kernel
theorem d_Mod_instruction_490 : decode b_Mod_instruction 490 = .ok (.ishl, 1) := by decide +kernel
theorem d_Mod_instruction_491 : decode b_Mod_instruction 491 = .ok (.ior, 1) := by decide +kernel
theorem d_Mod_instruction_492 : decode b_Mod_instruction 492 = .ok (.iload_n 1, 1) := by decide +kernel
