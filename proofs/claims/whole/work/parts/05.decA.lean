theorem d_Cap_init_0 : decode b_Cap_init 0 = .ok (.aload_n 0, 1) := by decide +kernel
theorem d_Cap_init_1 : decode b_Cap_init 1 = .ok (.invokespecial 3, 3) := by decide +kernel
theorem d_Cap_init_4 : decode b_Cap_init 4 = .ok (.aload_n 0, 1) := by decide +kernel
theorem d_Cap_init_5 : decode b_Cap_init 5 = .ok (.ldc 9, 2) := by decide +kernel
theorem d_Cap_init_7 : decode b_Cap_init 7 = .ok (.putfield 10, 3) := by decide +kernel
theorem d_Cap_init_10 : decode b_Cap_init 10 = .ok (.aload_n 0, 1) := by decide +kernel
theorem d_Cap_init_11 : decode b_Cap_init 11 = .ok (.ldc2_w 16, 3) := by decide +kernel
theorem d_Cap_init_14 : decode b_Cap_init 14 = .ok (.putfield 18, 3) := by decide +kernel
theorem d_Cap_init_17 : decode b_Cap_init 17 = .ok (.return_, 1) := by decide +kernel
theorem d_Tag_init_0 : decode b_Tag_init 0 = .ok (.aload_n 0, 1) := by decide +kernel
theorem d_Tag_init_1 : decode b_Tag_init 1 = .ok (.invokespecial 3, 3) := by decide +kernel
theorem d_Tag_init_4 : decode b_Tag_init 4 = .ok (.aload_n 0, 1) := by decide +kernel
theorem d_Tag_init_5 : decode b_Tag_init 5 = .ok (.bipush 64, 2) := by decide +kernel
theorem d_Tag_init_7 : decode b_Tag_init 7 = .ok (.newarray .int, 2) := by decide +kernel
theorem d_Tag_init_9 : decode b_Tag_init 9 = .ok (.putfield 11, 3) := by decide +kernel
theorem d_Tag_init_12 : decode b_Tag_init 12 = .ok (.aload_n 0, 1) := by decide +kernel
theorem d_Tag_init_13 : decode b_Tag_init 13 = .ok (.bipush 8, 2) := by decide +kernel
theorem d_Tag_init_15 : decode b_Tag_init 15 = .ok (.newarray .int, 2) := by decide +kernel
theorem d_Tag_init_17 : decode b_Tag_init 17 = .ok (.putfield 15, 3) := by decide +kernel
theorem d_Tag_init_20 : decode b_Tag_init 20 = .ok (.aload_n 0, 1) := by decide +kernel
theorem d_Tag_init_21 : decode b_Tag_init 21 = .ok (.bipush 8, 2) := by decide +kernel
theorem d_Tag_init_23 : decode b_Tag_init 23 = .ok (.newarray .int, 2) := by decide +kernel
theorem d_Tag_init_25 : decode b_Tag_init 25 = .ok (.putfield 18, 3) := by decide +kernel
theorem d_Tag_init_28 : decode b_Tag_init 28 = .ok (.aload_n 0, 1) := by decide +kernel
theorem d_Tag_init_29 : decode b_Tag_init 29 = .ok (.bipush 8, 2) := by decide +kernel
theorem d_Tag_init_31 : decode b_Tag_init 31 = .ok (.newarray .boolean, 2) := by decide +kernel
theorem d_Tag_init_33 : decode b_Tag_init 33 = .ok (.putfield 21, 3) := by decide +kernel
theorem d_Tag_init_36 : decode b_Tag_init 36 = .ok (.iconst 0, 1) := by decide +kernel
theorem d_Tag_init_37 : decode b_Tag_init 37 = .ok (.istore_n 1, 1) := by decide +kernel
theorem d_Tag_init_38 : decode b_Tag_init 38 = .ok (.iload_n 1, 1) := by decide +kernel
theorem d_Tag_init_39 : decode b_Tag_init 39 = .ok (.bipush 8, 2) := by decide +kernel
theorem d_Tag_init_41 : decode b_Tag_init 41 = .ok (.if_icmp .ge 16, 3) := by decide +kernel
theorem d_Tag_init_44 : decode b_Tag_init 44 = .ok (.aload_n 0, 1) := by decide +kernel
theorem d_Tag_init_45 : decode b_Tag_init 45 = .ok (.getfield 15, 3) := by decide +kernel
theorem d_Tag_init_48 : decode b_Tag_init 48 = .ok (.iload_n 1, 1) := by decide +kernel
theorem d_Tag_init_49 : decode b_Tag_init 49 = .ok (.iconst (-1), 1) := by decide +kernel
theorem d_Tag_init_50 : decode b_Tag_init 50 = .ok (.iastore, 1) := by decide +kernel
theorem d_Tag_init_51 : decode b_Tag_init 51 = .ok (.iinc 1 1, 3) := by decide +kernel
theorem d_Tag_init_54 : decode b_Tag_init 54 = .ok (.goto (-16), 3) := by decide +kernel
theorem d_Tag_init_57 : decode b_Tag_init 57 = .ok (.return_, 1) := by decide +kernel
theorem d_Dir_init_0 : decode b_Dir_init 0 = .ok (.aload_n 0, 1) := by decide +kernel
theorem d_Dir_init_1 : decode b_Dir_init 1 = .ok (.invokespecial 5, 3) := by decide +kernel
theorem d_Dir_init_4 : decode b_Dir_init 4 = .ok (.aload_n 0, 1) := by decide +kernel
theorem d_Dir_init_5 : decode b_Dir_init 5 = .ok (.bipush 32, 2) := by decide +kernel
theorem d_Dir_init_7 : decode b_Dir_init 7 = .ok (.newarray .int, 2) := by decide +kernel
theorem d_Dir_init_9 : decode b_Dir_init 9 = .ok (.putfield 11, 3) := by decide +kernel
theorem d_Dir_init_12 : decode b_Dir_init 12 = .ok (.aload_n 0, 1) := by decide +kernel
theorem d_Dir_init_13 : decode b_Dir_init 13 = .ok (.bipush 16, 2) := by decide +kernel
theorem d_Dir_init_15 : decode b_Dir_init 15 = .ok (.newarray .int, 2) := by decide +kernel
theorem d_Dir_init_17 : decode b_Dir_init 17 = .ok (.putfield 15, 3) := by decide +kernel
theorem d_Dir_init_20 : decode b_Dir_init 20 = .ok (.iconst 0, 1) := by decide +kernel
theorem d_Dir_init_21 : decode b_Dir_init 21 = .ok (.istore_n 1, 1) := by decide +kernel
theorem d_Dir_init_22 : decode b_Dir_init 22 = .ok (.iload_n 1, 1) := by decide +kernel
theorem d_Dir_init_23 : decode b_Dir_init 23 = .ok (.bipush 32, 2) := by decide +kernel
theorem d_Dir_init_25 : decode b_Dir_init 25 = .ok (.if_icmp .ge 16, 3) := by decide +kernel
theorem d_Dir_init_28 : decode b_Dir_init 28 = .ok (.aload_n 0, 1) := by decide +kernel
theorem d_Dir_init_29 : decode b_Dir_init 29 = .ok (.getfield 11, 3) := by decide +kernel
theorem d_Dir_init_32 : decode b_Dir_init 32 = .ok (.iload_n 1, 1) := by decide +kernel
theorem d_Dir_init_33 : decode b_Dir_init 33 = .ok (.iconst (-1), 1) := by decide +kernel
theorem d_Dir_init_34 : decode b_Dir_init 34 = .ok (.iastore, 1) := by decide +kernel
theorem d_Dir_init_35 : decode b_Dir_init 35 = .ok (.iinc 1 1, 3) := by decide +kernel
theorem d_Dir_init_38 : decode b_Dir_init 38 = .ok (.goto (-16), 3) := by decide +kernel
theorem d_Dir_init_41 : decode b_Dir_init 41 = .ok (.return_, 1) := by decide +kernel
theorem d_Pk_init_0 : decode b_Pk_init 0 = .ok (.aload_n 0, 1) := by decide +kernel
theorem d_Pk_init_1 : decode b_Pk_init 1 = .ok (.invokespecial 3, 3) := by decide +kernel
theorem d_Pk_init_4 : decode b_Pk_init 4 = .ok (.return_, 1) := by decide +kernel
theorem d_Cap_define_0 : decode b_Cap_define 0 = .ok (.aload_n 0, 1) := by decide +kernel
theorem d_Cap_define_1 : decode b_Cap_define 1 = .ok (.iload_n 1, 1) := by decide +kernel
theorem d_Cap_define_2 : decode b_Cap_define 2 = .ok (.putfield 22, 3) := by decide +kernel
theorem d_Cap_define_5 : decode b_Cap_define 5 = .ok (.aload_n 0, 1) := by decide +kernel
theorem d_Cap_define_6 : decode b_Cap_define 6 = .ok (.iload_n 2, 1) := by decide +kernel
theorem d_Cap_define_7 : decode b_Cap_define 7 = .ok (.putfield 26, 3) := by decide +kernel
theorem d_Cap_define_10 : decode b_Cap_define 10 = .ok (.aload_n 0, 1) := by decide +kernel
theorem d_Cap_define_11 : decode b_Cap_define 11 = .ok (.iload_n 3, 1) := by decide +kernel
theorem d_Cap_define_12 : decode b_Cap_define 12 = .ok (.putfield 10, 3) := by decide +kernel
theorem d_Cap_define_15 : decode b_Cap_define 15 = .ok (.aload_n 0, 1) := by decide +kernel
theorem d_Cap_define_16 : decode b_Cap_define 16 = .ok (.invokevirtual 32, 3) := by decide +kernel
theorem d_Cap_define_19 : decode b_Cap_define 19 = .ok (.return_, 1) := by decide +kernel
theorem d_Cap_settle_0 : decode b_Cap_settle 0 = .ok (.aload_n 0, 1) := by decide +kernel
theorem d_Cap_settle_1 : decode b_Cap_settle 1 = .ok (.getfield 10, 3) := by decide +kernel
theorem d_Cap_settle_4 : decode b_Cap_settle 4 = .ok (.sipush 16384, 3) := by decide +kernel
theorem d_Cap_settle_7 : decode b_Cap_settle 7 = .ok (.iand, 1) := by decide +kernel
theorem d_Cap_settle_8 : decode b_Cap_settle 8 = .ok (.ifCond .eq 7, 3) := by decide +kernel
theorem d_Cap_settle_11 : decode b_Cap_settle 11 = .ok (.iconst 1, 1) := by decide +kernel
theorem d_Cap_settle_12 : decode b_Cap_settle 12 = .ok (.goto 4, 3) := by decide +kernel
theorem d_Cap_settle_15 : decode b_Cap_settle 15 = .ok (.iconst 0, 1) := by decide +kernel
theorem d_Cap_settle_16 : decode b_Cap_settle 16 = .ok (.istore_n 1, 1) := by decide +kernel
theorem d_Cap_settle_17 : decode b_Cap_settle 17 = .ok (.aload_n 0, 1) := by decide +kernel
theorem d_Cap_settle_18 : decode b_Cap_settle 18 = .ok (.getfield 10, 3) := by decide +kernel
theorem d_Cap_settle_21 : decode b_Cap_settle 21 = .ok (.sipush 255, 3) := by decide +kernel
theorem d_Cap_settle_24 : decode b_Cap_settle 24 = .ok (.iand, 1) := by decide +kernel
theorem d_Cap_settle_25 : decode b_Cap_settle 25 = .ok (.istore_n 2, 1) := by decide +kernel
theorem d_Cap_settle_26 : decode b_Cap_settle 26 = .ok (.aload_n 0, 1) := by decide +kernel
theorem d_Cap_settle_27 : decode b_Cap_settle 27 = .ok (.getfield 10, 3) := by decide +kernel
theorem d_Cap_settle_30 : decode b_Cap_settle 30 = .ok (.bipush 8, 2) := by decide +kernel
theorem d_Cap_settle_32 : decode b_Cap_settle 32 = .ok (.iushr, 1) := by decide +kernel
theorem d_Cap_settle_33 : decode b_Cap_settle 33 = .ok (.bipush 63, 2) := by decide +kernel
theorem d_Cap_settle_35 : decode b_Cap_settle 35 = .ok (.iand, 1) := by decide +kernel
theorem d_Cap_settle_36 : decode b_Cap_settle 36 = .ok (.istore_n 3, 1) := by decide +kernel
theorem d_Cap_settle_37 : decode b_Cap_settle 37 = .ok (.iconst 0, 1) := by decide +kernel
theorem d_Cap_settle_38 : decode b_Cap_settle 38 = .ok (.istore 4, 2) := by decide +kernel
theorem d_Cap_settle_40 : decode b_Cap_settle 40 = .ok (.iload_n 1, 1) := by decide +kernel
theorem d_Cap_settle_41 : decode b_Cap_settle 41 = .ok (.ifCond .eq 32, 3) := by decide +kernel
theorem d_Cap_settle_44 : decode b_Cap_settle 44 = .ok (.iload_n 3, 1) := by decide +kernel
theorem d_Cap_settle_45 : decode b_Cap_settle 45 = .ok (.bipush 7, 2) := by decide +kernel
theorem d_Cap_settle_47 : decode b_Cap_settle 47 = .ok (.iand, 1) := by decide +kernel
theorem d_Cap_settle_48 : decode b_Cap_settle 48 = .ok (.bipush 8, 2) := by decide +kernel
theorem d_Cap_settle_50 : decode b_Cap_settle 50 = .ok (.imul, 1) := by decide +kernel
theorem d_Cap_settle_51 : decode b_Cap_settle 51 = .ok (.iload_n 2, 1) := by decide +kernel
theorem d_Cap_settle_52 : decode b_Cap_settle 52 = .ok (.bipush 7, 2) := by decide +kernel
theorem d_Cap_settle_54 : decode b_Cap_settle 54 = .ok (.iand, 1) := by decide +kernel
theorem d_Cap_settle_55 : decode b_Cap_settle 55 = .ok (.iadd, 1) := by decide +kernel
theorem d_Cap_settle_56 : decode b_Cap_settle 56 = .ok (.bipush 26, 2) := by decide +kernel
theorem d_Cap_settle_58 : decode b_Cap_settle 58 = .ok (.invokestatic 56, 3) := by decide +kernel
theorem d_Cap_settle_61 : decode b_Cap_settle 61 = .ok (.istore 4, 2) := by decide +kernel
theorem d_Cap_settle_63 : decode b_Cap_settle 63 = .ok (.iload_n 2, 1) := by decide +kernel
theorem d_Cap_settle_64 : decode b_Cap_settle 64 = .ok (.bipush (-8), 2) := by decide +kernel
theorem d_Cap_settle_66 : decode b_Cap_settle 66 = .ok (.iand, 1) := by decide +kernel
theorem d_Cap_settle_67 : decode b_Cap_settle 67 = .ok (.istore_n 2, 1) := by decide +kernel
theorem d_Cap_settle_68 : decode b_Cap_settle 68 = .ok (.iload_n 3, 1) := by decide +kernel
theorem d_Cap_settle_69 : decode b_Cap_settle 69 = .ok (.bipush (-8), 2) := by decide +kernel
theorem d_Cap_settle_71 : decode b_Cap_settle 71 = .ok (.iand, 1) := by decide +kernel
theorem d_Cap_settle_72 : decode b_Cap_settle 72 = .ok (.istore_n 3, 1) := by decide +kernel
theorem d_Cap_settle_73 : decode b_Cap_settle 73 = .ok (.iload_n 2, 1) := by decide +kernel
theorem d_Cap_settle_74 : decode b_Cap_settle 74 = .ok (.bipush 6, 2) := by decide +kernel
theorem d_Cap_settle_76 : decode b_Cap_settle 76 = .ok (.iushr, 1) := by decide +kernel
theorem d_Cap_settle_77 : decode b_Cap_settle 77 = .ok (.iload_n 3, 1) := by decide +kernel
theorem d_Cap_settle_78 : decode b_Cap_settle 78 = .ok (.iload_n 2, 1) := by decide +kernel
theorem d_Cap_settle_79 : decode b_Cap_settle 79 = .ok (.bipush 63, 2) := by decide +kernel
theorem d_Cap_settle_81 : decode b_Cap_settle 81 = .ok (.iand, 1) := by decide +kernel
theorem d_Cap_settle_82 : decode b_Cap_settle 82 = .ok (.if_icmp .ge 7, 3) := by decide +kernel
theorem d_Cap_settle_85 : decode b_Cap_settle 85 = .ok (.iconst 1, 1) := by decide +kernel
theorem d_Cap_settle_86 : decode b_Cap_settle 86 = .ok (.goto 4, 3) := by decide +kernel
theorem d_Cap_settle_89 : decode b_Cap_settle 89 = .ok (.iconst 0, 1) := by decide +kernel
theorem d_Cap_settle_90 : decode b_Cap_settle 90 = .ok (.iadd, 1) := by decide +kernel
theorem d_Cap_settle_91 : decode b_Cap_settle 91 = .ok (.iload_n 1, 1) := by decide +kernel
theorem d_Cap_settle_92 : decode b_Cap_settle 92 = .ok (.ifCond .eq 7, 3) := by decide +kernel
theorem d_Cap_settle_95 : decode b_Cap_settle 95 = .ok (.iconst 1, 1) := by decide +kernel
theorem d_Cap_settle_96 : decode b_Cap_settle 96 = .ok (.goto 4, 3) := by decide +kernel
theorem d_Cap_settle_99 : decode b_Cap_settle 99 = .ok (.iconst 0, 1) := by decide +kernel
theorem d_Cap_settle_100 : decode b_Cap_settle 100 = .ok (.iadd, 1) := by decide +kernel
theorem d_Cap_settle_101 : decode b_Cap_settle 101 = .ok (.istore 5, 2) := by decide +kernel
theorem d_Cap_settle_103 : decode b_Cap_settle 103 = .ok (.iload_n 3, 1) := by decide +kernel
theorem d_Cap_settle_104 : decode b_Cap_settle 104 = .ok (.iload 5, 2) := by decide +kernel
theorem d_Cap_settle_106 : decode b_Cap_settle 106 = .ok (.iconst 3, 1) := by decide +kernel
theorem d_Cap_settle_107 : decode b_Cap_settle 107 = .ok (.iand, 1) := by decide +kernel
theorem d_Cap_settle_108 : decode b_Cap_settle 108 = .ok (.bipush 6, 2) := by decide +kernel
theorem d_Cap_settle_110 : decode b_Cap_settle 110 = .ok (.ishl, 1) := by decide +kernel
theorem d_Cap_settle_111 : decode b_Cap_settle 111 = .ok (.ior, 1) := by decide +kernel
theorem d_Cap_settle_112 : decode b_Cap_settle 112 = .ok (.istore_n 3, 1) := by decide +kernel
theorem d_Cap_settle_113 : decode b_Cap_settle 113 = .ok (.aload_n 0, 1) := by decide +kernel
theorem d_Cap_settle_114 : decode b_Cap_settle 114 = .ok (.getfield 26, 3) := by decide +kernel
theorem d_Cap_settle_117 : decode b_Cap_settle 117 = .ok (.i2l, 1) := by decide +kernel
theorem d_Cap_settle_118 : decode b_Cap_settle 118 = .ok (.ldc2_w 48, 3) := by decide +kernel
theorem d_Cap_settle_121 : decode b_Cap_settle 121 = .ok (.land, 1) := by decide +kernel
theorem d_Cap_settle_122 : decode b_Cap_settle 122 = .ok (.lstore 6, 2) := by decide +kernel
theorem d_Cap_settle_124 : decode b_Cap_settle 124 = .ok (.lload 6, 2) := by decide +kernel
theorem d_Cap_settle_126 : decode b_Cap_settle 126 = .ok (.iload 4, 2) := by decide +kernel
theorem d_Cap_settle_128 : decode b_Cap_settle 128 = .ok (.lushr, 1) := by decide +kernel
theorem d_Cap_settle_129 : decode b_Cap_settle 129 = .ok (.l2i, 1) := by decide +kernel
theorem d_Cap_settle_130 : decode b_Cap_settle 130 = .ok (.sipush 255, 3) := by decide +kernel
theorem d_Cap_settle_133 : decode b_Cap_settle 133 = .ok (.iand, 1) := by decide +kernel
theorem d_Cap_settle_134 : decode b_Cap_settle 134 = .ok (.istore 8, 2) := by decide +kernel
theorem d_Cap_settle_136 : decode b_Cap_settle 136 = .ok (.iload_n 2, 1) := by decide +kernel
theorem d_Cap_settle_137 : decode b_Cap_settle 137 = .ok (.iconst 5, 1) := by decide +kernel
theorem d_Cap_settle_138 : decode b_Cap_settle 138 = .ok (.iushr, 1) := by decide +kernel
theorem d_Cap_settle_139 : decode b_Cap_settle 139 = .ok (.iconst 1, 1) := by decide +kernel
theorem d_Cap_settle_140 : decode b_Cap_settle 140 = .ok (.isub, 1) := by decide +kernel
theorem d_Cap_settle_141 : decode b_Cap_settle 141 = .ok (.bipush 7, 2) := by decide +kernel
theorem d_Cap_settle_143 : decode b_Cap_settle 143 = .ok (.iand, 1) := by decide +kernel
theorem d_Cap_settle_144 : decode b_Cap_settle 144 = .ok (.istore 9, 2) := by decide +kernel
theorem d_Cap_settle_146 : decode b_Cap_settle 146 = .ok (.lload 6, 2) := by decide +kernel
theorem d_Cap_settle_148 : decode b_Cap_settle 148 = .ok (.iload 4, 2) := by decide +kernel
theorem d_Cap_settle_150 : decode b_Cap_settle 150 = .ok (.bipush 8, 2) := by decide +kernel
theorem d_Cap_settle_152 : decode b_Cap_settle 152 = .ok (.iadd, 1) := by decide +kernel
theorem d_Cap_settle_153 : decode b_Cap_settle 153 = .ok (.lushr, 1) := by decide +kernel
theorem d_Cap_settle_154 : decode b_Cap_settle 154 = .ok (.iload 8, 2) := by decide +kernel
theorem d_Cap_settle_156 : decode b_Cap_settle 156 = .ok (.iload 9, 2) := by decide +kernel
theorem d_Cap_settle_158 : decode b_Cap_settle 158 = .ok (.invokestatic 59, 3) := by decide +kernel
theorem d_Cap_settle_161 : decode b_Cap_settle 161 = .ok (.i2l, 1) := by decide +kernel
theorem d_Cap_settle_162 : decode b_Cap_settle 162 = .ok (.lsub, 1) := by decide +kernel
theorem d_Cap_settle_163 : decode b_Cap_settle 163 = .ok (.lstore 10, 2) := by decide +kernel
theorem d_Cap_settle_165 : decode b_Cap_settle 165 = .ok (.aload_n 0, 1) := by decide +kernel
theorem d_Cap_settle_166 : decode b_Cap_settle 166 = .ok (.lload 10, 2) := by decide +kernel
theorem d_Cap_settle_168 : decode b_Cap_settle 168 = .ok (.iload_n 2, 1) := by decide +kernel
theorem d_Cap_settle_169 : decode b_Cap_settle 169 = .ok (.iload 9, 2) := by decide +kernel
theorem d_Cap_settle_171 : decode b_Cap_settle 171 = .ok (.invokestatic 59, 3) := by decide +kernel
theorem d_Cap_settle_174 : decode b_Cap_settle 174 = .ok (.i2l, 1) := by decide +kernel
theorem d_Cap_settle_175 : decode b_Cap_settle 175 = .ok (.ladd, 1) := by decide +kernel
theorem d_Cap_settle_176 : decode b_Cap_settle 176 = .ok (.bipush 8, 2) := by decide +kernel
theorem d_Cap_settle_178 : decode b_Cap_settle 178 = .ok (.lshl, 1) := by decide +kernel
theorem d_Cap_settle_179 : decode b_Cap_settle 179 = .ok (.iload_n 2, 1) := by decide +kernel
theorem d_Cap_settle_180 : decode b_Cap_settle 180 = .ok (.i2l, 1) := by decide +kernel
theorem d_Cap_settle_181 : decode b_Cap_settle 181 = .ok (.ladd, 1) := by decide +kernel
theorem d_Cap_settle_182 : decode b_Cap_settle 182 = .ok (.iload 4, 2) := by decide +kernel
theorem d_Cap_settle_184 : decode b_Cap_settle 184 = .ok (.lshl, 1) := by decide +kernel
theorem d_Cap_settle_185 : decode b_Cap_settle 185 = .ok (.ldc2_w 48, 3) := by decide +kernel
theorem d_Cap_settle_188 : decode b_Cap_settle 188 = .ok (.land, 1) := by decide +kernel
theorem d_Cap_settle_189 : decode b_Cap_settle 189 = .ok (.putfield 29, 3) := by decide +kernel
theorem d_Cap_settle_192 : decode b_Cap_settle 192 = .ok (.aload_n 0, 1) := by decide +kernel
theorem d_Cap_settle_193 : decode b_Cap_settle 193 = .ok (.lload 10, 2) := by decide +kernel
theorem d_Cap_settle_195 : decode b_Cap_settle 195 = .ok (.iload_n 3, 1) := by decide +kernel
theorem d_Cap_settle_196 : decode b_Cap_settle 196 = .ok (.iload 9, 2) := by decide +kernel
theorem d_Cap_settle_198 : decode b_Cap_settle 198 = .ok (.invokestatic 59, 3) := by decide +kernel
theorem d_Cap_settle_201 : decode b_Cap_settle 201 = .ok (.i2l, 1) := by decide +kernel
theorem d_Cap_settle_202 : decode b_Cap_settle 202 = .ok (.ladd, 1) := by decide +kernel
theorem d_Cap_settle_203 : decode b_Cap_settle 203 = .ok (.bipush 8, 2) := by decide +kernel
theorem d_Cap_settle_205 : decode b_Cap_settle 205 = .ok (.lshl, 1) := by decide +kernel
theorem d_Cap_settle_206 : decode b_Cap_settle 206 = .ok (.iload_n 3, 1) := by decide +kernel
theorem d_Cap_settle_207 : decode b_Cap_settle 207 = .ok (.i2l, 1) := by decide +kernel
theorem d_Cap_settle_208 : decode b_Cap_settle 208 = .ok (.ladd, 1) := by decide +kernel
theorem d_Cap_settle_209 : decode b_Cap_settle 209 = .ok (.iload 4, 2) := by decide +kernel
theorem d_Cap_settle_211 : decode b_Cap_settle 211 = .ok (.lshl, 1) := by decide +kernel
theorem d_Cap_settle_212 : decode b_Cap_settle 212 = .ok (.ldc2_w 62, 3) := by decide +kernel
theorem d_Cap_settle_215 : decode b_Cap_settle 215 = .ok (.land, 1) := by decide +kernel
theorem d_Cap_settle_216 : decode b_Cap_settle 216 = .ok (.putfield 18, 3) := by decide +kernel
theorem d_Cap_settle_219 : decode b_Cap_settle 219 = .ok (.iload 4, 2) := by decide +kernel
theorem d_Cap_settle_221 : decode b_Cap_settle 221 = .ok (.bipush 25, 2) := by decide +kernel
theorem d_Cap_settle_223 : decode b_Cap_settle 223 = .ok (.if_icmp .ge 39, 3) := by decide +kernel
theorem d_Cap_settle_226 : decode b_Cap_settle 226 = .ok (.aload_n 0, 1) := by decide +kernel
theorem d_Cap_settle_227 : decode b_Cap_settle 227 = .ok (.getfield 18, 3) := by decide +kernel
theorem d_Cap_settle_230 : decode b_Cap_settle 230 = .ok (.bipush 31, 2) := by decide +kernel
theorem d_Cap_settle_232 : decode b_Cap_settle 232 = .ok (.lushr, 1) := by decide +kernel
theorem d_Cap_settle_233 : decode b_Cap_settle 233 = .ok (.aload_n 0, 1) := by decide +kernel
theorem d_Cap_settle_234 : decode b_Cap_settle 234 = .ok (.getfield 29, 3) := by decide +kernel
theorem d_Cap_settle_237 : decode b_Cap_settle 237 = .ok (.bipush 31, 2) := by decide +kernel
theorem d_Cap_settle_239 : decode b_Cap_settle 239 = .ok (.lushr, 1) := by decide +kernel
theorem d_Cap_settle_240 : decode b_Cap_settle 240 = .ok (.lsub, 1) := by decide +kernel
theorem d_Cap_settle_241 : decode b_Cap_settle 241 = .ok (.ldc2_w 64, 3) := by decide +kernel
theorem d_Cap_settle_244 : decode b_Cap_settle 244 = .ok (.land, 1) := by decide +kernel
theorem d_Cap_settle_245 : decode b_Cap_settle 245 = .ok (.lconst 1, 1) := by decide +kernel
theorem d_Cap_settle_246 : decode b_Cap_settle 246 = .ok (.lcmp, 1) := by decide +kernel
theorem d_Cap_settle_247 : decode b_Cap_settle 247 = .ok (.ifCond .le 15, 3) := by decide +kernel
theorem d_Cap_settle_250 : decode b_Cap_settle 250 = .ok (.aload_n 0, 1) := by decide +kernel
theorem d_Cap_settle_251 : decode b_Cap_settle 251 = .ok (.dup, 1) := by decide +kernel
theorem d_Cap_settle_252 : decode b_Cap_settle 252 = .ok (.getfield 18, 3) := by decide +kernel
theorem d_Cap_settle_255 : decode b_Cap_settle 255 = .ok (.ldc2_w 16, 3) := by decide +kernel
theorem d_Cap_settle_258 : decode b_Cap_settle 258 = .ok (.lxor, 1) := by decide +kernel
theorem d_Cap_settle_259 : decode b_Cap_settle 259 = .ok (.putfield 18, 3) := by decide +kernel
theorem d_Cap_settle_262 : decode b_Cap_settle 262 = .ok (.return_, 1) := by decide +kernel
theorem d_Math_min_0 : decode b_Math_min 0 = .ok (.iload_n 0, 1) := by decide +kernel
theorem d_Math_min_1 : decode b_Math_min 1 = .ok (.iload_n 1, 1) := by decide +kernel
theorem d_Math_min_2 : decode b_Math_min 2 = .ok (.if_icmp .gt 7, 3) := by decide +kernel
theorem d_Math_min_5 : decode b_Math_min 5 = .ok (.iload_n 0, 1) := by decide +kernel
theorem d_Math_min_6 : decode b_Math_min 6 = .ok (.goto 4, 3) := by decide +kernel
theorem d_Math_min_9 : decode b_Math_min 9 = .ok (.iload_n 1, 1) := by decide +kernel
theorem d_Math_min_10 : decode b_Math_min 10 = .ok (.ireturn, 1) := by decide +kernel
theorem d_Cap_below_0 : decode b_Cap_below 0 = .ok (.iload_n 0, 1) := by decide +kernel
theorem d_Cap_below_1 : decode b_Cap_below 1 = .ok (.iconst 5, 1) := by decide +kernel
theorem d_Cap_below_2 : decode b_Cap_below 2 = .ok (.iushr, 1) := by decide +kernel
theorem d_Cap_below_3 : decode b_Cap_below 3 = .ok (.iload_n 1, 1) := by decide +kernel
theorem d_Cap_below_4 : decode b_Cap_below 4 = .ok (.if_icmp .ge 7, 3) := by decide +kernel
theorem d_Cap_below_7 : decode b_Cap_below 7 = .ok (.iconst 1, 1) := by decide +kernel
theorem d_Cap_below_8 : decode b_Cap_below 8 = .ok (.goto 4, 3) := by decide +kernel
theorem d_Cap_below_11 : decode b_Cap_below 11 = .ok (.iconst 0, 1) := by decide +kernel
theorem d_Cap_below_12 : decode b_Cap_below 12 = .ok (.ireturn, 1) := by decide +kernel
theorem d_Cap_isWithin_0 : decode b_Cap_isWithin 0 = .ok (.aload_n 0, 1) := by decide +kernel
theorem d_Cap_isWithin_1 : decode b_Cap_isWithin 1 = .ok (.getfield 29, 3) := by decide +kernel
theorem d_Cap_isWithin_4 : decode b_Cap_isWithin 4 = .ok (.aload_n 1, 1) := by decide +kernel
theorem d_Cap_isWithin_5 : decode b_Cap_isWithin 5 = .ok (.getfield 29, 3) := by decide +kernel
theorem d_Cap_isWithin_8 : decode b_Cap_isWithin 8 = .ok (.lcmp, 1) := by decide +kernel
theorem d_Cap_isWithin_9 : decode b_Cap_isWithin 9 = .ok (.ifCond .lt 33, 3) := by decide +kernel
theorem d_Cap_isWithin_12 : decode b_Cap_isWithin 12 = .ok (.aload_n 0, 1) := by decide +kernel
theorem d_Cap_isWithin_13 : decode b_Cap_isWithin 13 = .ok (.getfield 18, 3) := by decide +kernel
theorem d_Cap_isWithin_16 : decode b_Cap_isWithin 16 = .ok (.aload_n 1, 1) := by decide +kernel
theorem d_Cap_isWithin_17 : decode b_Cap_isWithin 17 = .ok (.getfield 18, 3) := by decide +kernel
theorem d_Cap_isWithin_20 : decode b_Cap_isWithin 20 = .ok (.lcmp, 1) := by decide +kernel
theorem d_Cap_isWithin_21 : decode b_Cap_isWithin 21 = .ok (.ifCond .gt 21, 3) := by decide +kernel
theorem d_Cap_isWithin_24 : decode b_Cap_isWithin 24 = .ok (.aload_n 0, 1) := by decide +kernel
theorem d_Cap_isWithin_25 : decode b_Cap_isWithin 25 = .ok (.invokevirtual 41, 3) := by decide +kernel
theorem d_Cap_isWithin_28 : decode b_Cap_isWithin 28 = .ok (.aload_n 1, 1) := by decide +kernel
theorem d_Cap_isWithin_29 : decode b_Cap_isWithin 29 = .ok (.invokevirtual 41, 3) := by decide +kernel
theorem d_Cap_isWithin_32 : decode b_Cap_isWithin 32 = .ok (.iconst (-1), 1) := by decide +kernel
theorem d_Cap_isWithin_33 : decode b_Cap_isWithin 33 = .ok (.ixor, 1) := by decide +kernel
theorem d_Cap_isWithin_34 : decode b_Cap_isWithin 34 = .ok (.iand, 1) := by decide +kernel
theorem d_Cap_isWithin_35 : decode b_Cap_isWithin 35 = .ok (.ifCond .ne 7, 3) := by decide +kernel
theorem d_Cap_isWithin_38 : decode b_Cap_isWithin 38 = .ok (.iconst 1, 1) := by decide +kernel
theorem d_Cap_isWithin_39 : decode b_Cap_isWithin 39 = .ok (.goto 4, 3) := by decide +kernel
theorem d_Cap_isWithin_42 : decode b_Cap_isWithin 42 = .ok (.iconst 0, 1) := by decide +kernel
theorem d_Cap_isWithin_43 : decode b_Cap_isWithin 43 = .ok (.ireturn, 1) := by decide +kernel
theorem d_Cap_perms_0 : decode b_Cap_perms 0 = .ok (.aload_n 0, 1) := by decide +kernel
theorem d_Cap_perms_1 : decode b_Cap_perms 1 = .ok (.getfield 10, 3) := by decide +kernel
theorem d_Cap_perms_4 : decode b_Cap_perms 4 = .ok (.bipush 20, 2) := by decide +kernel
theorem d_Cap_perms_6 : decode b_Cap_perms 6 = .ok (.iushr, 1) := by decide +kernel
theorem d_Cap_perms_7 : decode b_Cap_perms 7 = .ok (.ireturn, 1) := by decide +kernel
theorem d_Dir_find_0 : decode b_Dir_find 0 = .ok (.iload_n 1, 1) := by decide +kernel
theorem d_Dir_find_1 : decode b_Dir_find 1 = .ok (.bipush 16, 2) := by decide +kernel
theorem d_Dir_find_3 : decode b_Dir_find 3 = .ok (.irem, 1) := by decide +kernel
theorem d_Dir_find_4 : decode b_Dir_find 4 = .ok (.iconst 2, 1) := by decide +kernel
theorem d_Dir_find_5 : decode b_Dir_find 5 = .ok (.imul, 1) := by decide +kernel
theorem d_Dir_find_6 : decode b_Dir_find 6 = .ok (.istore_n 2, 1) := by decide +kernel
theorem d_Dir_find_7 : decode b_Dir_find 7 = .ok (.iload_n 2, 1) := by decide +kernel
theorem d_Dir_find_8 : decode b_Dir_find 8 = .ok (.istore_n 3, 1) := by decide +kernel
theorem d_Dir_find_9 : decode b_Dir_find 9 = .ok (.iload_n 3, 1) := by decide +kernel
theorem d_Dir_find_10 : decode b_Dir_find 10 = .ok (.iload_n 2, 1) := by decide +kernel
theorem d_Dir_find_11 : decode b_Dir_find 11 = .ok (.iconst 2, 1) := by decide +kernel
theorem d_Dir_find_12 : decode b_Dir_find 12 = .ok (.iadd, 1) := by decide +kernel
theorem d_Dir_find_13 : decode b_Dir_find 13 = .ok (.if_icmp .ge 21, 3) := by decide +kernel
theorem d_Dir_find_16 : decode b_Dir_find 16 = .ok (.aload_n 0, 1) := by decide +kernel
theorem d_Dir_find_17 : decode b_Dir_find 17 = .ok (.getfield 11, 3) := by decide +kernel
theorem d_Dir_find_20 : decode b_Dir_find 20 = .ok (.iload_n 3, 1) := by decide +kernel
theorem d_Dir_find_21 : decode b_Dir_find 21 = .ok (.iaload, 1) := by decide +kernel
theorem d_Dir_find_22 : decode b_Dir_find 22 = .ok (.iload_n 1, 1) := by decide +kernel
theorem d_Dir_find_23 : decode b_Dir_find 23 = .ok (.if_icmp .ne 5, 3) := by decide +kernel
theorem d_Dir_find_26 : decode b_Dir_find 26 = .ok (.iload_n 3, 1) := by decide +kernel
theorem d_Dir_find_27 : decode b_Dir_find 27 = .ok (.ireturn, 1) := by decide +kernel
theorem d_Dir_find_28 : decode b_Dir_find 28 = .ok (.iinc 3 1, 3) := by decide +kernel
theorem d_Dir_find_31 : decode b_Dir_find 31 = .ok (.goto (-22), 3) := by decide +kernel
theorem d_Dir_find_34 : decode b_Dir_find 34 = .ok (.iconst (-1), 1) := by decide +kernel
theorem d_Dir_find_35 : decode b_Dir_find 35 = .ok (.ireturn, 1) := by decide +kernel
theorem d_Tag_seenOfLine_0 : decode b_Tag_seenOfLine 0 = .ok (.iload_n 1, 1) := by decide +kernel
theorem d_Tag_seenOfLine_1 : decode b_Tag_seenOfLine 1 = .ok (.bipush 8, 2) := by decide +kernel
theorem d_Tag_seenOfLine_3 : decode b_Tag_seenOfLine 3 = .ok (.idiv, 1) := by decide +kernel
theorem d_Tag_seenOfLine_4 : decode b_Tag_seenOfLine 4 = .ok (.istore_n 2, 1) := by decide +kernel
theorem d_Tag_seenOfLine_5 : decode b_Tag_seenOfLine 5 = .ok (.iload_n 2, 1) := by decide +kernel
theorem d_Tag_seenOfLine_6 : decode b_Tag_seenOfLine 6 = .ok (.bipush 8, 2) := by decide +kernel
theorem d_Tag_seenOfLine_8 : decode b_Tag_seenOfLine 8 = .ok (.irem, 1) := by decide +kernel
theorem d_Tag_seenOfLine_9 : decode b_Tag_seenOfLine 9 = .ok (.istore_n 3, 1) := by decide +kernel
theorem d_Tag_seenOfLine_10 : decode b_Tag_seenOfLine 10 = .ok (.aload_n 0, 1) := by decide +kernel
theorem d_Tag_seenOfLine_11 : decode b_Tag_seenOfLine 11 = .ok (.getfield 15, 3) := by decide +kernel
theorem d_Tag_seenOfLine_14 : decode b_Tag_seenOfLine 14 = .ok (.iload_n 3, 1) := by decide +kernel
theorem d_Tag_seenOfLine_15 : decode b_Tag_seenOfLine 15 = .ok (.iaload, 1) := by decide +kernel
theorem d_Tag_seenOfLine_16 : decode b_Tag_seenOfLine 16 = .ok (.iload_n 2, 1) := by decide +kernel
theorem d_Tag_seenOfLine_17 : decode b_Tag_seenOfLine 17 = .ok (.if_icmp .ne 12, 3) := by decide +kernel
theorem d_Tag_seenOfLine_20 : decode b_Tag_seenOfLine 20 = .ok (.aload_n 0, 1) := by decide +kernel
theorem d_Tag_seenOfLine_21 : decode b_Tag_seenOfLine 21 = .ok (.getfield 18, 3) := by decide +kernel
theorem d_Tag_seenOfLine_24 : decode b_Tag_seenOfLine 24 = .ok (.iload_n 3, 1) := by decide +kernel
theorem d_Tag_seenOfLine_25 : decode b_Tag_seenOfLine 25 = .ok (.iaload, 1) := by decide +kernel
theorem d_Tag_seenOfLine_26 : decode b_Tag_seenOfLine 26 = .ok (.goto 9, 3) := by decide +kernel
theorem d_Tag_seenOfLine_29 : decode b_Tag_seenOfLine 29 = .ok (.aload_n 0, 1) := by decide +kernel
theorem d_Tag_seenOfLine_30 : decode b_Tag_seenOfLine 30 = .ok (.getfield 11, 3) := by decide +kernel
theorem d_Tag_seenOfLine_33 : decode b_Tag_seenOfLine 33 = .ok (.iload_n 2, 1) := by decide +kernel
theorem d_Tag_seenOfLine_34 : decode b_Tag_seenOfLine 34 = .ok (.iaload, 1) := by decide +kernel
theorem d_Tag_seenOfLine_35 : decode b_Tag_seenOfLine 35 = .ok (.istore 4, 2) := by decide +kernel
theorem d_Tag_seenOfLine_37 : decode b_Tag_seenOfLine 37 = .ok (.iconst 4, 1) := by decide +kernel
theorem d_Tag_seenOfLine_38 : decode b_Tag_seenOfLine 38 = .ok (.iload_n 1, 1) := by decide +kernel
theorem d_Tag_seenOfLine_39 : decode b_Tag_seenOfLine 39 = .ok (.bipush 8, 2) := by decide +kernel
theorem d_Tag_seenOfLine_41 : decode b_Tag_seenOfLine 41 = .ok (.irem, 1) := by decide +kernel
theorem d_Tag_seenOfLine_42 : decode b_Tag_seenOfLine 42 = .ok (.imul, 1) := by decide +kernel
theorem d_Tag_seenOfLine_43 : decode b_Tag_seenOfLine 43 = .ok (.istore 5, 2) := by decide +kernel
theorem d_Tag_seenOfLine_45 : decode b_Tag_seenOfLine 45 = .ok (.iload 4, 2) := by decide +kernel
theorem d_Tag_seenOfLine_47 : decode b_Tag_seenOfLine 47 = .ok (.iload 5, 2) := by decide +kernel
theorem d_Tag_seenOfLine_49 : decode b_Tag_seenOfLine 49 = .ok (.iushr, 1) := by decide +kernel
theorem d_Tag_seenOfLine_50 : decode b_Tag_seenOfLine 50 = .ok (.bipush 15, 2) := by decide +kernel
theorem d_Tag_seenOfLine_52 : decode b_Tag_seenOfLine 52 = .ok (.iand, 1) := by decide +kernel
theorem d_Tag_seenOfLine_53 : decode b_Tag_seenOfLine 53 = .ok (.ireturn, 1) := by decide +kernel
theorem d_Dir_doubles_0 : decode b_Dir_doubles 0 = .ok (.iconst 0, 1) := by decide +kernel
theorem d_Dir_doubles_1 : decode b_Dir_doubles 1 = .ok (.istore_n 1, 1) := by decide +kernel
theorem d_Dir_doubles_2 : decode b_Dir_doubles 2 = .ok (.iconst 0, 1) := by decide +kernel
theorem d_Dir_doubles_3 : decode b_Dir_doubles 3 = .ok (.istore_n 2, 1) := by decide +kernel
theorem d_Dir_doubles_4 : decode b_Dir_doubles 4 = .ok (.iload_n 2, 1) := by decide +kernel
theorem d_Dir_doubles_5 : decode b_Dir_doubles 5 = .ok (.bipush 32, 2) := by decide +kernel
theorem d_Dir_doubles_7 : decode b_Dir_doubles 7 = .ok (.if_icmp .ge 58, 3) := by decide +kernel
theorem d_Dir_doubles_10 : decode b_Dir_doubles 10 = .ok (.iload_n 2, 1) := by decide +kernel
theorem d_Dir_doubles_11 : decode b_Dir_doubles 11 = .ok (.iconst 1, 1) := by decide +kernel
theorem d_Dir_doubles_12 : decode b_Dir_doubles 12 = .ok (.iadd, 1) := by decide +kernel
theorem d_Dir_doubles_13 : decode b_Dir_doubles 13 = .ok (.istore_n 3, 1) := by decide +kernel
theorem d_Dir_doubles_14 : decode b_Dir_doubles 14 = .ok (.iload_n 3, 1) := by decide +kernel
theorem d_Dir_doubles_15 : decode b_Dir_doubles 15 = .ok (.bipush 32, 2) := by decide +kernel
theorem d_Dir_doubles_17 : decode b_Dir_doubles 17 = .ok (.if_icmp .ge 42, 3) := by decide +kernel
theorem d_Dir_doubles_20 : decode b_Dir_doubles 20 = .ok (.iload_n 1, 1) := by decide +kernel
theorem d_Dir_doubles_21 : decode b_Dir_doubles 21 = .ok (.aload_n 0, 1) := by decide +kernel
theorem d_Dir_doubles_22 : decode b_Dir_doubles 22 = .ok (.getfield 11, 3) := by decide +kernel
theorem d_Dir_doubles_25 : decode b_Dir_doubles 25 = .ok (.iload_n 2, 1) := by decide +kernel
theorem d_Dir_doubles_26 : decode b_Dir_doubles 26 = .ok (.iaload, 1) := by decide +kernel
theorem d_Dir_doubles_27 : decode b_Dir_doubles 27 = .ok (.iconst (-1), 1) := by decide +kernel
theorem d_Dir_doubles_28 : decode b_Dir_doubles 28 = .ok (.if_icmp .eq 22, 3) := by decide +kernel
theorem d_Dir_doubles_31 : decode b_Dir_doubles 31 = .ok (.aload_n 0, 1) := by decide +kernel
theorem d_Dir_doubles_32 : decode b_Dir_doubles 32 = .ok (.getfield 11, 3) := by decide +kernel
theorem d_Dir_doubles_35 : decode b_Dir_doubles 35 = .ok (.iload_n 2, 1) := by decide +kernel
theorem d_Dir_doubles_36 : decode b_Dir_doubles 36 = .ok (.iaload, 1) := by decide +kernel
theorem d_Dir_doubles_37 : decode b_Dir_doubles 37 = .ok (.aload_n 0, 1) := by decide +kernel
theorem d_Dir_doubles_38 : decode b_Dir_doubles 38 = .ok (.getfield 11, 3) := by decide +kernel
theorem d_Dir_doubles_41 : decode b_Dir_doubles 41 = .ok (.iload_n 3, 1) := by decide +kernel
theorem d_Dir_doubles_42 : decode b_Dir_doubles 42 = .ok (.iaload, 1) := by decide +kernel
theorem d_Dir_doubles_43 : decode b_Dir_doubles 43 = .ok (.if_icmp .ne 7, 3) := by decide +kernel
theorem d_Dir_doubles_46 : decode b_Dir_doubles 46 = .ok (.iconst 1, 1) := by decide +kernel
theorem d_Dir_doubles_47 : decode b_Dir_doubles 47 = .ok (.goto 4, 3) := by decide +kernel
theorem d_Dir_doubles_50 : decode b_Dir_doubles 50 = .ok (.iconst 0, 1) := by decide +kernel
theorem d_Dir_doubles_51 : decode b_Dir_doubles 51 = .ok (.iadd, 1) := by decide +kernel
theorem d_Dir_doubles_52 : decode b_Dir_doubles 52 = .ok (.istore_n 1, 1) := by decide +kernel
theorem d_Dir_doubles_53 : decode b_Dir_doubles 53 = .ok (.iinc 3 1, 3) := by decide +kernel
theorem d_Dir_doubles_56 : decode b_Dir_doubles 56 = .ok (.goto (-42), 3) := by decide +kernel
theorem d_Dir_doubles_59 : decode b_Dir_doubles 59 = .ok (.iinc 2 1, 3) := by decide +kernel
theorem d_Dir_doubles_62 : decode b_Dir_doubles 62 = .ok (.goto (-58), 3) := by decide +kernel
theorem d_Dir_doubles_65 : decode b_Dir_doubles 65 = .ok (.iload_n 1, 1) := by decide +kernel
theorem d_Dir_doubles_66 : decode b_Dir_doubles 66 = .ok (.ireturn, 1) := by decide +kernel
theorem d_Tag_wrongs_0 : decode b_Tag_wrongs 0 = .ok (.iconst 0, 1) := by decide +kernel
theorem d_Tag_wrongs_1 : decode b_Tag_wrongs 1 = .ok (.istore_n 1, 1) := by decide +kernel
theorem d_Tag_wrongs_2 : decode b_Tag_wrongs 2 = .ok (.iconst 0, 1) := by decide +kernel
theorem d_Tag_wrongs_3 : decode b_Tag_wrongs 3 = .ok (.istore_n 2, 1) := by decide +kernel
theorem d_Tag_wrongs_4 : decode b_Tag_wrongs 4 = .ok (.iload_n 2, 1) := by decide +kernel
theorem d_Tag_wrongs_5 : decode b_Tag_wrongs 5 = .ok (.bipush 8, 2) := by decide +kernel
theorem d_Tag_wrongs_7 : decode b_Tag_wrongs 7 = .ok (.if_icmp .ge 67, 3) := by decide +kernel
theorem d_Tag_wrongs_10 : decode b_Tag_wrongs 10 = .ok (.aload_n 0, 1) := by decide +kernel
theorem d_Tag_wrongs_11 : decode b_Tag_wrongs 11 = .ok (.getfield 15, 3) := by decide +kernel
theorem d_Tag_wrongs_14 : decode b_Tag_wrongs 14 = .ok (.iload_n 2, 1) := by decide +kernel
theorem d_Tag_wrongs_15 : decode b_Tag_wrongs 15 = .ok (.iaload, 1) := by decide +kernel
theorem d_Tag_wrongs_16 : decode b_Tag_wrongs 16 = .ok (.iconst (-1), 1) := by decide +kernel
theorem d_Tag_wrongs_17 : decode b_Tag_wrongs 17 = .ok (.if_icmp .ne 18, 3) := by decide +kernel
theorem d_Tag_wrongs_20 : decode b_Tag_wrongs 20 = .ok (.iload_n 1, 1) := by decide +kernel
theorem d_Tag_wrongs_21 : decode b_Tag_wrongs 21 = .ok (.aload_n 0, 1) := by decide +kernel
theorem d_Tag_wrongs_22 : decode b_Tag_wrongs 22 = .ok (.getfield 18, 3) := by decide +kernel
theorem d_Tag_wrongs_25 : decode b_Tag_wrongs 25 = .ok (.iload_n 2, 1) := by decide +kernel
theorem d_Tag_wrongs_26 : decode b_Tag_wrongs 26 = .ok (.iaload, 1) := by decide +kernel
theorem d_Tag_wrongs_27 : decode b_Tag_wrongs 27 = .ok (.invokestatic 25, 3) := by decide +kernel
theorem d_Tag_wrongs_30 : decode b_Tag_wrongs 30 = .ok (.iadd, 1) := by decide +kernel
theorem d_Tag_wrongs_31 : decode b_Tag_wrongs 31 = .ok (.istore_n 1, 1) := by decide +kernel
theorem d_Tag_wrongs_32 : decode b_Tag_wrongs 32 = .ok (.goto 36, 3) := by decide +kernel
theorem d_Tag_wrongs_35 : decode b_Tag_wrongs 35 = .ok (.aload_n 0, 1) := by decide +kernel
theorem d_Tag_wrongs_36 : decode b_Tag_wrongs 36 = .ok (.getfield 21, 3) := by decide +kernel
theorem d_Tag_wrongs_39 : decode b_Tag_wrongs 39 = .ok (.iload_n 2, 1) := by decide +kernel
theorem d_Tag_wrongs_40 : decode b_Tag_wrongs 40 = .ok (.baload, 1) := by decide +kernel
theorem d_Tag_wrongs_41 : decode b_Tag_wrongs 41 = .ok (.ifCond .ne 27, 3) := by decide +kernel
theorem d_Tag_wrongs_44 : decode b_Tag_wrongs 44 = .ok (.iload_n 1, 1) := by decide +kernel
theorem d_Tag_wrongs_45 : decode b_Tag_wrongs 45 = .ok (.aload_n 0, 1) := by decide +kernel
theorem d_Tag_wrongs_46 : decode b_Tag_wrongs 46 = .ok (.getfield 18, 3) := by decide +kernel
theorem d_Tag_wrongs_49 : decode b_Tag_wrongs 49 = .ok (.iload_n 2, 1) := by decide +kernel
theorem d_Tag_wrongs_50 : decode b_Tag_wrongs 50 = .ok (.iaload, 1) := by decide +kernel
theorem d_Tag_wrongs_51 : decode b_Tag_wrongs 51 = .ok (.aload_n 0, 1) := by decide +kernel
theorem d_Tag_wrongs_52 : decode b_Tag_wrongs 52 = .ok (.getfield 11, 3) := by decide +kernel
theorem d_Tag_wrongs_55 : decode b_Tag_wrongs 55 = .ok (.aload_n 0, 1) := by decide +kernel
theorem d_Tag_wrongs_56 : decode b_Tag_wrongs 56 = .ok (.getfield 15, 3) := by decide +kernel
theorem d_Tag_wrongs_59 : decode b_Tag_wrongs 59 = .ok (.iload_n 2, 1) := by decide +kernel
theorem d_Tag_wrongs_60 : decode b_Tag_wrongs 60 = .ok (.iaload, 1) := by decide +kernel
theorem d_Tag_wrongs_61 : decode b_Tag_wrongs 61 = .ok (.iaload, 1) := by decide +kernel
theorem d_Tag_wrongs_62 : decode b_Tag_wrongs 62 = .ok (.ixor, 1) := by decide +kernel
theorem d_Tag_wrongs_63 : decode b_Tag_wrongs 63 = .ok (.invokestatic 25, 3) := by decide +kernel
theorem d_Tag_wrongs_66 : decode b_Tag_wrongs 66 = .ok (.iadd, 1) := by decide +kernel
theorem d_Tag_wrongs_67 : decode b_Tag_wrongs 67 = .ok (.istore_n 1, 1) := by decide +kernel
theorem d_Tag_wrongs_68 : decode b_Tag_wrongs 68 = .ok (.iinc 2 1, 3) := by decide +kernel
theorem d_Tag_wrongs_71 : decode b_Tag_wrongs 71 = .ok (.goto (-67), 3) := by decide +kernel
theorem d_Tag_wrongs_74 : decode b_Tag_wrongs 74 = .ok (.iload_n 1, 1) := by decide +kernel
theorem d_Tag_wrongs_75 : decode b_Tag_wrongs 75 = .ok (.ireturn, 1) := by decide +kernel
theorem d_Int_bitCount_0 : decode b_Int_bitCount 0 = .ok (.iload_n 0, 1) := by decide +kernel
theorem d_Int_bitCount_1 : decode b_Int_bitCount 1 = .ok (.iload_n 0, 1) := by decide +kernel
theorem d_Int_bitCount_2 : decode b_Int_bitCount 2 = .ok (.iconst 1, 1) := by decide +kernel
theorem d_Int_bitCount_3 : decode b_Int_bitCount 3 = .ok (.iushr, 1) := by decide +kernel
theorem d_Int_bitCount_4 : decode b_Int_bitCount 4 = .ok (.ldc_w 265, 3) := by decide +kernel
theorem d_Int_bitCount_7 : decode b_Int_bitCount 7 = .ok (.iand, 1) := by decide +kernel
theorem d_Int_bitCount_8 : decode b_Int_bitCount 8 = .ok (.isub, 1) := by decide +kernel
theorem d_Int_bitCount_9 : decode b_Int_bitCount 9 = .ok (.istore_n 0, 1) := by decide +kernel
theorem d_Int_bitCount_10 : decode b_Int_bitCount 10 = .ok (.iload_n 0, 1) := by decide +kernel
theorem d_Int_bitCount_11 : decode b_Int_bitCount 11 = .ok (.ldc_w 266, 3) := by decide +kernel
theorem d_Int_bitCount_14 : decode b_Int_bitCount 14 = .ok (.iand, 1) := by decide +kernel
theorem d_Int_bitCount_15 : decode b_Int_bitCount 15 = .ok (.iload_n 0, 1) := by decide +kernel
theorem d_Int_bitCount_16 : decode b_Int_bitCount 16 = .ok (.iconst 2, 1) := by decide +kernel
theorem d_Int_bitCount_17 : decode b_Int_bitCount 17 = .ok (.iushr, 1) := by decide +kernel
theorem d_Int_bitCount_18 : decode b_Int_bitCount 18 = .ok (.ldc_w 266, 3) := by decide +kernel
theorem d_Int_bitCount_21 : decode b_Int_bitCount 21 = .ok (.iand, 1) := by decide +kernel
theorem d_Int_bitCount_22 : decode b_Int_bitCount 22 = .ok (.iadd, 1) := by decide +kernel
theorem d_Int_bitCount_23 : decode b_Int_bitCount 23 = .ok (.istore_n 0, 1) := by decide +kernel
theorem d_Int_bitCount_24 : decode b_Int_bitCount 24 = .ok (.iload_n 0, 1) := by decide +kernel
theorem d_Int_bitCount_25 : decode b_Int_bitCount 25 = .ok (.iload_n 0, 1) := by decide +kernel
theorem d_Int_bitCount_26 : decode b_Int_bitCount 26 = .ok (.iconst 4, 1) := by decide +kernel
theorem d_Int_bitCount_27 : decode b_Int_bitCount 27 = .ok (.iushr, 1) := by decide +kernel
theorem d_Int_bitCount_28 : decode b_Int_bitCount 28 = .ok (.iadd, 1) := by decide +kernel
theorem d_Int_bitCount_29 : decode b_Int_bitCount 29 = .ok (.ldc_w 267, 3) := by decide +kernel
theorem d_Int_bitCount_32 : decode b_Int_bitCount 32 = .ok (.iand, 1) := by decide +kernel
theorem d_Int_bitCount_33 : decode b_Int_bitCount 33 = .ok (.istore_n 0, 1) := by decide +kernel
theorem d_Int_bitCount_34 : decode b_Int_bitCount 34 = .ok (.iload_n 0, 1) := by decide +kernel
theorem d_Int_bitCount_35 : decode b_Int_bitCount 35 = .ok (.iload_n 0, 1) := by decide +kernel
theorem d_Int_bitCount_36 : decode b_Int_bitCount 36 = .ok (.bipush 8, 2) := by decide +kernel
theorem d_Int_bitCount_38 : decode b_Int_bitCount 38 = .ok (.iushr, 1) := by decide +kernel
theorem d_Int_bitCount_39 : decode b_Int_bitCount 39 = .ok (.iadd, 1) := by decide +kernel
theorem d_Int_bitCount_40 : decode b_Int_bitCount 40 = .ok (.istore_n 0, 1) := by decide +kernel
theorem d_Int_bitCount_41 : decode b_Int_bitCount 41 = .ok (.iload_n 0, 1) := by decide +kernel
theorem d_Int_bitCount_42 : decode b_Int_bitCount 42 = .ok (.iload_n 0, 1) := by decide +kernel
theorem d_Int_bitCount_43 : decode b_Int_bitCount 43 = .ok (.bipush 16, 2) := by decide +kernel
theorem d_Int_bitCount_45 : decode b_Int_bitCount 45 = .ok (.iushr, 1) := by decide +kernel
theorem d_Int_bitCount_46 : decode b_Int_bitCount 46 = .ok (.iadd, 1) := by decide +kernel
theorem d_Int_bitCount_47 : decode b_Int_bitCount 47 = .ok (.istore_n 0, 1) := by decide +kernel
theorem d_Int_bitCount_48 : decode b_Int_bitCount 48 = .ok (.iload_n 0, 1) := by decide +kernel
theorem d_Int_bitCount_49 : decode b_Int_bitCount 49 = .ok (.bipush 63, 2) := by decide +kernel
theorem d_Int_bitCount_51 : decode b_Int_bitCount 51 = .ok (.iand, 1) := by decide +kernel
theorem d_Int_bitCount_52 : decode b_Int_bitCount 52 = .ok (.ireturn, 1) := by decide +kernel
theorem d_Dir_victim_0 : decode b_Dir_victim 0 = .ok (.iload_n 1, 1) := by decide +kernel
theorem d_Dir_victim_1 : decode b_Dir_victim 1 = .ok (.bipush 16, 2) := by decide +kernel
theorem d_Dir_victim_3 : decode b_Dir_victim 3 = .ok (.irem, 1) := by decide +kernel
theorem d_Dir_victim_4 : decode b_Dir_victim 4 = .ok (.istore_n 2, 1) := by decide +kernel
theorem d_Dir_victim_5 : decode b_Dir_victim 5 = .ok (.iload_n 2, 1) := by decide +kernel
theorem d_Dir_victim_6 : decode b_Dir_victim 6 = .ok (.iconst 2, 1) := by decide +kernel
theorem d_Dir_victim_7 : decode b_Dir_victim 7 = .ok (.imul, 1) := by decide +kernel
theorem d_Dir_victim_8 : decode b_Dir_victim 8 = .ok (.aload_n 0, 1) := by decide +kernel
theorem d_Dir_victim_9 : decode b_Dir_victim 9 = .ok (.getfield 15, 3) := by decide +kernel
theorem d_Dir_victim_12 : decode b_Dir_victim 12 = .ok (.iload_n 2, 1) := by decide +kernel
theorem d_Dir_victim_13 : decode b_Dir_victim 13 = .ok (.iaload, 1) := by decide +kernel
theorem d_Dir_victim_14 : decode b_Dir_victim 14 = .ok (.iadd, 1) := by decide +kernel
theorem d_Dir_victim_15 : decode b_Dir_victim 15 = .ok (.ireturn, 1) := by decide +kernel
theorem d_Tag_bring_0 : decode b_Tag_bring 0 = .ok (.iload_n 1, 1) := by decide +kernel
theorem d_Tag_bring_1 : decode b_Tag_bring 1 = .ok (.bipush 8, 2) := by decide +kernel
theorem d_Tag_bring_3 : decode b_Tag_bring 3 = .ok (.idiv, 1) := by decide +kernel
theorem d_Tag_bring_4 : decode b_Tag_bring 4 = .ok (.istore_n 2, 1) := by decide +kernel
theorem d_Tag_bring_5 : decode b_Tag_bring 5 = .ok (.iload_n 2, 1) := by decide +kernel
theorem d_Tag_bring_6 : decode b_Tag_bring 6 = .ok (.bipush 8, 2) := by decide +kernel
theorem d_Tag_bring_8 : decode b_Tag_bring 8 = .ok (.irem, 1) := by decide +kernel
theorem d_Tag_bring_9 : decode b_Tag_bring 9 = .ok (.istore_n 3, 1) := by decide +kernel
theorem d_Tag_bring_10 : decode b_Tag_bring 10 = .ok (.aload_n 0, 1) := by decide +kernel
theorem d_Tag_bring_11 : decode b_Tag_bring 11 = .ok (.getfield 15, 3) := by decide +kernel
theorem d_Tag_bring_14 : decode b_Tag_bring 14 = .ok (.iload_n 3, 1) := by decide +kernel
theorem d_Tag_bring_15 : decode b_Tag_bring 15 = .ok (.iaload, 1) := by decide +kernel
theorem d_Tag_bring_16 : decode b_Tag_bring 16 = .ok (.iload_n 2, 1) := by decide +kernel
theorem d_Tag_bring_17 : decode b_Tag_bring 17 = .ok (.if_icmp .eq 65, 3) := by decide +kernel
theorem d_Tag_bring_20 : decode b_Tag_bring 20 = .ok (.aload_n 0, 1) := by decide +kernel
theorem d_Tag_bring_21 : decode b_Tag_bring 21 = .ok (.getfield 15, 3) := by decide +kernel
theorem d_Tag_bring_24 : decode b_Tag_bring 24 = .ok (.iload_n 3, 1) := by decide +kernel
theorem d_Tag_bring_25 : decode b_Tag_bring 25 = .ok (.iaload, 1) := by decide +kernel
theorem d_Tag_bring_26 : decode b_Tag_bring 26 = .ok (.iconst (-1), 1) := by decide +kernel
theorem d_Tag_bring_27 : decode b_Tag_bring 27 = .ok (.if_icmp .eq 29, 3) := by decide +kernel
theorem d_Tag_bring_30 : decode b_Tag_bring 30 = .ok (.aload_n 0, 1) := by decide +kernel
theorem d_Tag_bring_31 : decode b_Tag_bring 31 = .ok (.getfield 21, 3) := by decide +kernel
theorem d_Tag_bring_34 : decode b_Tag_bring 34 = .ok (.iload_n 3, 1) := by decide +kernel
theorem d_Tag_bring_35 : decode b_Tag_bring 35 = .ok (.baload, 1) := by decide +kernel
theorem d_Tag_bring_36 : decode b_Tag_bring 36 = .ok (.ifCond .eq 20, 3) := by decide +kernel
theorem d_Tag_bring_39 : decode b_Tag_bring 39 = .ok (.aload_n 0, 1) := by decide +kernel
theorem d_Tag_bring_40 : decode b_Tag_bring 40 = .ok (.getfield 11, 3) := by decide +kernel
theorem d_Tag_bring_43 : decode b_Tag_bring 43 = .ok (.aload_n 0, 1) := by decide +kernel
theorem d_Tag_bring_44 : decode b_Tag_bring 44 = .ok (.getfield 15, 3) := by decide +kernel
theorem d_Tag_bring_47 : decode b_Tag_bring 47 = .ok (.iload_n 3, 1) := by decide +kernel
theorem d_Tag_bring_48 : decode b_Tag_bring 48 = .ok (.iaload, 1) := by decide +kernel
theorem d_Tag_bring_49 : decode b_Tag_bring 49 = .ok (.aload_n 0, 1) := by decide +kernel
theorem d_Tag_bring_50 : decode b_Tag_bring 50 = .ok (.getfield 18, 3) := by decide +kernel
theorem d_Tag_bring_53 : decode b_Tag_bring 53 = .ok (.iload_n 3, 1) := by decide +kernel
theorem d_Tag_bring_54 : decode b_Tag_bring 54 = .ok (.iaload, 1) := by decide +kernel
theorem d_Tag_bring_55 : decode b_Tag_bring 55 = .ok (.iastore, 1) := by decide +kernel
theorem d_Tag_bring_56 : decode b_Tag_bring 56 = .ok (.aload_n 0, 1) := by decide +kernel
theorem d_Tag_bring_57 : decode b_Tag_bring 57 = .ok (.getfield 18, 3) := by decide +kernel
theorem d_Tag_bring_60 : decode b_Tag_bring 60 = .ok (.iload_n 3, 1) := by decide +kernel
theorem d_Tag_bring_61 : decode b_Tag_bring 61 = .ok (.aload_n 0, 1) := by decide +kernel
theorem d_Tag_bring_62 : decode b_Tag_bring 62 = .ok (.getfield 11, 3) := by decide +kernel
theorem d_Tag_bring_65 : decode b_Tag_bring 65 = .ok (.iload_n 2, 1) := by decide +kernel
theorem d_Tag_bring_66 : decode b_Tag_bring 66 = .ok (.iaload, 1) := by decide +kernel
theorem d_Tag_bring_67 : decode b_Tag_bring 67 = .ok (.iastore, 1) := by decide +kernel
theorem d_Tag_bring_68 : decode b_Tag_bring 68 = .ok (.aload_n 0, 1) := by decide +kernel
theorem d_Tag_bring_69 : decode b_Tag_bring 69 = .ok (.getfield 21, 3) := by decide +kernel
theorem d_Tag_bring_72 : decode b_Tag_bring 72 = .ok (.iload_n 3, 1) := by decide +kernel
theorem d_Tag_bring_73 : decode b_Tag_bring 73 = .ok (.iconst 0, 1) := by decide +kernel
theorem d_Tag_bring_74 : decode b_Tag_bring 74 = .ok (.bastore, 1) := by decide +kernel
theorem d_Tag_bring_75 : decode b_Tag_bring 75 = .ok (.aload_n 0, 1) := by decide +kernel
theorem d_Tag_bring_76 : decode b_Tag_bring 76 = .ok (.getfield 15, 3) := by decide +kernel
theorem d_Tag_bring_79 : decode b_Tag_bring 79 = .ok (.iload_n 3, 1) := by decide +kernel
theorem d_Tag_bring_80 : decode b_Tag_bring 80 = .ok (.iload_n 2, 1) := by decide +kernel
theorem d_Tag_bring_81 : decode b_Tag_bring 81 = .ok (.iastore, 1) := by decide +kernel
theorem d_Tag_bring_82 : decode b_Tag_bring 82 = .ok (.return_, 1) := by decide +kernel
theorem d_Tag_keep_0 : decode b_Tag_keep 0 = .ok (.iload_n 1, 1) := by decide +kernel
theorem d_Tag_keep_1 : decode b_Tag_keep 1 = .ok (.bipush 8, 2) := by decide +kernel
theorem d_Tag_keep_3 : decode b_Tag_keep 3 = .ok (.idiv, 1) := by decide +kernel
theorem d_Tag_keep_4 : decode b_Tag_keep 4 = .ok (.bipush 8, 2) := by decide +kernel
theorem d_Tag_keep_6 : decode b_Tag_keep 6 = .ok (.irem, 1) := by decide +kernel
theorem d_Tag_keep_7 : decode b_Tag_keep 7 = .ok (.istore_n 3, 1) := by decide +kernel
theorem d_Tag_keep_8 : decode b_Tag_keep 8 = .ok (.iconst 4, 1) := by decide +kernel
theorem d_Tag_keep_9 : decode b_Tag_keep 9 = .ok (.iload_n 1, 1) := by decide +kernel
theorem d_Tag_keep_10 : decode b_Tag_keep 10 = .ok (.bipush 8, 2) := by decide +kernel
theorem d_Tag_keep_12 : decode b_Tag_keep 12 = .ok (.irem, 1) := by decide +kernel
theorem d_Tag_keep_13 : decode b_Tag_keep 13 = .ok (.imul, 1) := by decide +kernel
theorem d_Tag_keep_14 : decode b_Tag_keep 14 = .ok (.istore 4, 2) := by decide +kernel
theorem d_Tag_keep_16 : decode b_Tag_keep 16 = .ok (.aload_n 0, 1) := by decide +kernel
theorem d_Tag_keep_17 : decode b_Tag_keep 17 = .ok (.getfield 18, 3) := by decide +kernel
theorem d_Tag_keep_20 : decode b_Tag_keep 20 = .ok (.iload_n 3, 1) := by decide +kernel
theorem d_Tag_keep_21 : decode b_Tag_keep 21 = .ok (.aload_n 0, 1) := by decide +kernel
theorem d_Tag_keep_22 : decode b_Tag_keep 22 = .ok (.getfield 18, 3) := by decide +kernel
theorem d_Tag_keep_25 : decode b_Tag_keep 25 = .ok (.iload_n 3, 1) := by decide +kernel
theorem d_Tag_keep_26 : decode b_Tag_keep 26 = .ok (.iaload, 1) := by decide +kernel
theorem d_Tag_keep_27 : decode b_Tag_keep 27 = .ok (.bipush 15, 2) := by decide +kernel
theorem d_Tag_keep_29 : decode b_Tag_keep 29 = .ok (.iload 4, 2) := by decide +kernel
theorem d_Tag_keep_31 : decode b_Tag_keep 31 = .ok (.ishl, 1) := by decide +kernel
theorem d_Tag_keep_32 : decode b_Tag_keep 32 = .ok (.iconst (-1), 1) := by decide +kernel
theorem d_Tag_keep_33 : decode b_Tag_keep 33 = .ok (.ixor, 1) := by decide +kernel
theorem d_Tag_keep_34 : decode b_Tag_keep 34 = .ok (.iand, 1) := by decide +kernel
theorem d_Tag_keep_35 : decode b_Tag_keep 35 = .ok (.iload_n 2, 1) := by decide +kernel
theorem d_Tag_keep_36 : decode b_Tag_keep 36 = .ok (.iload 4, 2) := by decide +kernel
theorem d_Tag_keep_38 : decode b_Tag_keep 38 = .ok (.ishl, 1) := by decide +kernel
theorem d_Tag_keep_39 : decode b_Tag_keep 39 = .ok (.ior, 1) := by decide +kernel
theorem d_Tag_keep_40 : decode b_Tag_keep 40 = .ok (.iastore, 1) := by decide +kernel
theorem d_Tag_keep_41 : decode b_Tag_keep 41 = .ok (.aload_n 0, 1) := by decide +kernel
theorem d_Tag_keep_42 : decode b_Tag_keep 42 = .ok (.getfield 21, 3) := by decide +kernel
theorem d_Tag_keep_45 : decode b_Tag_keep 45 = .ok (.iload_n 3, 1) := by decide +kernel
theorem d_Tag_keep_46 : decode b_Tag_keep 46 = .ok (.iconst 1, 1) := by decide +kernel
theorem d_Tag_keep_47 : decode b_Tag_keep 47 = .ok (.bastore, 1) := by decide +kernel
theorem d_Tag_keep_48 : decode b_Tag_keep 48 = .ok (.return_, 1) := by decide +kernel
theorem d_Tag_ofLine_0 : decode b_Tag_ofLine 0 = .ok (.iconst 4, 1) := by decide +kernel
theorem d_Tag_ofLine_1 : decode b_Tag_ofLine 1 = .ok (.iload_n 1, 1) := by decide +kernel
theorem d_Tag_ofLine_2 : decode b_Tag_ofLine 2 = .ok (.bipush 8, 2) := by decide +kernel
theorem d_Tag_ofLine_4 : decode b_Tag_ofLine 4 = .ok (.irem, 1) := by decide +kernel
theorem d_Tag_ofLine_5 : decode b_Tag_ofLine 5 = .ok (.imul, 1) := by decide +kernel
theorem d_Tag_ofLine_6 : decode b_Tag_ofLine 6 = .ok (.istore_n 2, 1) := by decide +kernel
theorem d_Tag_ofLine_7 : decode b_Tag_ofLine 7 = .ok (.aload_n 0, 1) := by decide +kernel
theorem d_Tag_ofLine_8 : decode b_Tag_ofLine 8 = .ok (.getfield 18, 3) := by decide +kernel
theorem d_Tag_ofLine_11 : decode b_Tag_ofLine 11 = .ok (.iload_n 1, 1) := by decide +kernel
theorem d_Tag_ofLine_12 : decode b_Tag_ofLine 12 = .ok (.bipush 8, 2) := by decide +kernel
theorem d_Tag_ofLine_14 : decode b_Tag_ofLine 14 = .ok (.idiv, 1) := by decide +kernel
theorem d_Tag_ofLine_15 : decode b_Tag_ofLine 15 = .ok (.bipush 8, 2) := by decide +kernel
theorem d_Tag_ofLine_17 : decode b_Tag_ofLine 17 = .ok (.irem, 1) := by decide +kernel
theorem d_Tag_ofLine_18 : decode b_Tag_ofLine 18 = .ok (.iaload, 1) := by decide +kernel
theorem d_Tag_ofLine_19 : decode b_Tag_ofLine 19 = .ok (.iload_n 2, 1) := by decide +kernel
theorem d_Tag_ofLine_20 : decode b_Tag_ofLine 20 = .ok (.iushr, 1) := by decide +kernel
theorem d_Tag_ofLine_21 : decode b_Tag_ofLine 21 = .ok (.bipush 15, 2) := by decide +kernel
theorem d_Tag_ofLine_23 : decode b_Tag_ofLine 23 = .ok (.iand, 1) := by decide +kernel
theorem d_Tag_ofLine_24 : decode b_Tag_ofLine 24 = .ok (.ireturn, 1) := by decide +kernel
theorem d_Dir_touch_0 : decode b_Dir_touch 0 = .ok (.aload_n 0, 1) := by decide +kernel
theorem d_Dir_touch_1 : decode b_Dir_touch 1 = .ok (.getfield 15, 3) := by decide +kernel
theorem d_Dir_touch_4 : decode b_Dir_touch 4 = .ok (.iload_n 1, 1) := by decide +kernel
theorem d_Dir_touch_5 : decode b_Dir_touch 5 = .ok (.iconst 2, 1) := by decide +kernel
theorem d_Dir_touch_6 : decode b_Dir_touch 6 = .ok (.idiv, 1) := by decide +kernel
theorem d_Dir_touch_7 : decode b_Dir_touch 7 = .ok (.iconst 1, 1) := by decide +kernel
theorem d_Dir_touch_8 : decode b_Dir_touch 8 = .ok (.iload_n 1, 1) := by decide +kernel
theorem d_Dir_touch_9 : decode b_Dir_touch 9 = .ok (.iconst 2, 1) := by decide +kernel
theorem d_Dir_touch_10 : decode b_Dir_touch 10 = .ok (.irem, 1) := by decide +kernel
theorem d_Dir_touch_11 : decode b_Dir_touch 11 = .ok (.isub, 1) := by decide +kernel
theorem d_Dir_touch_12 : decode b_Dir_touch 12 = .ok (.iastore, 1) := by decide +kernel
theorem d_Dir_touch_13 : decode b_Dir_touch 13 = .ok (.return_, 1) := by decide +kernel
theorem d_Pk_fit_0 : decode b_Pk_fit 0 = .ok (.aload_n 0, 1) := by decide +kernel
theorem d_Pk_fit_1 : decode b_Pk_fit 1 = .ok (.lload_n 3, 1) := by decide +kernel
theorem d_Pk_fit_2 : decode b_Pk_fit 2 = .ok (.lload_n 1, 1) := by decide +kernel
theorem d_Pk_fit_3 : decode b_Pk_fit 3 = .ok (.lsub, 1) := by decide +kernel
theorem d_Pk_fit_4 : decode b_Pk_fit 4 = .ok (.bipush 7, 2) := by decide +kernel
theorem d_Pk_fit_6 : decode b_Pk_fit 6 = .ok (.lushr, 1) := by decide +kernel
theorem d_Pk_fit_7 : decode b_Pk_fit 7 = .ok (.invokestatic 9, 3) := by decide +kernel
theorem d_Pk_fit_10 : decode b_Pk_fit 10 = .ok (.putfield 15, 3) := by decide +kernel
theorem d_Pk_fit_13 : decode b_Pk_fit 13 = .ok (.aload_n 0, 1) := by decide +kernel
theorem d_Pk_fit_14 : decode b_Pk_fit 14 = .ok (.aload_n 0, 1) := by decide +kernel
theorem d_Pk_fit_15 : decode b_Pk_fit 15 = .ok (.getfield 15, 3) := by decide +kernel
theorem d_Pk_fit_18 : decode b_Pk_fit 18 = .ok (.ifCond .gt 13, 3) := by decide +kernel
theorem d_Pk_fit_21 : decode b_Pk_fit 21 = .ok (.lload_n 3, 1) := by decide +kernel
theorem d_Pk_fit_22 : decode b_Pk_fit 22 = .ok (.lload_n 1, 1) := by decide +kernel
theorem d_Pk_fit_23 : decode b_Pk_fit 23 = .ok (.lsub, 1) := by decide +kernel
theorem d_Pk_fit_24 : decode b_Pk_fit 24 = .ok (.ldc2_w 19, 3) := by decide +kernel
theorem d_Pk_fit_27 : decode b_Pk_fit 27 = .ok (.lcmp, 1) := by decide +kernel
theorem d_Pk_fit_28 : decode b_Pk_fit 28 = .ok (.ifCond .le 7, 3) := by decide +kernel
theorem d_Pk_fit_31 : decode b_Pk_fit 31 = .ok (.iconst 1, 1) := by decide +kernel
theorem d_Pk_fit_32 : decode b_Pk_fit 32 = .ok (.goto 4, 3) := by decide +kernel
theorem d_Pk_fit_35 : decode b_Pk_fit 35 = .ok (.iconst 0, 1) := by decide +kernel
theorem d_Pk_fit_36 : decode b_Pk_fit 36 = .ok (.putfield 21, 3) := by decide +kernel
theorem d_Pk_fit_39 : decode b_Pk_fit 39 = .ok (.lload_n 1, 1) := by decide +kernel
theorem d_Pk_fit_40 : decode b_Pk_fit 40 = .ok (.lstore 5, 2) := by decide +kernel
theorem d_Pk_fit_42 : decode b_Pk_fit 42 = .ok (.lload_n 3, 1) := by decide +kernel
theorem d_Pk_fit_43 : decode b_Pk_fit 43 = .ok (.lstore 7, 2) := by decide +kernel
theorem d_Pk_fit_45 : decode b_Pk_fit 45 = .ok (.aload_n 0, 1) := by decide +kernel
theorem d_Pk_fit_46 : decode b_Pk_fit 46 = .ok (.getfield 21, 3) := by decide +kernel
theorem d_Pk_fit_49 : decode b_Pk_fit 49 = .ok (.ifCond .eq 60, 3) := by decide +kernel
theorem d_Pk_fit_52 : decode b_Pk_fit 52 = .ok (.aload_n 0, 1) := by decide +kernel
theorem d_Pk_fit_53 : decode b_Pk_fit 53 = .ok (.lload_n 1, 1) := by decide +kernel
theorem d_Pk_fit_54 : decode b_Pk_fit 54 = .ok (.invokevirtual 25, 3) := by decide +kernel
theorem d_Pk_fit_57 : decode b_Pk_fit 57 = .ok (.lstore 5, 2) := by decide +kernel
theorem d_Pk_fit_59 : decode b_Pk_fit 59 = .ok (.aload_n 0, 1) := by decide +kernel
theorem d_Pk_fit_60 : decode b_Pk_fit 60 = .ok (.lload_n 3, 1) := by decide +kernel
theorem d_Pk_fit_61 : decode b_Pk_fit 61 = .ok (.invokevirtual 29, 3) := by decide +kernel
theorem d_Pk_fit_64 : decode b_Pk_fit 64 = .ok (.lstore 7, 2) := by decide +kernel
theorem d_Pk_fit_66 : decode b_Pk_fit 66 = .ok (.lload 7, 2) := by decide +kernel
theorem d_Pk_fit_68 : decode b_Pk_fit 68 = .ok (.lload 5, 2) := by decide +kernel
theorem d_Pk_fit_70 : decode b_Pk_fit 70 = .ok (.lsub, 1) := by decide +kernel
theorem d_Pk_fit_71 : decode b_Pk_fit 71 = .ok (.aload_n 0, 1) := by decide +kernel
theorem d_Pk_fit_72 : decode b_Pk_fit 72 = .ok (.getfield 15, 3) := by decide +kernel
theorem d_Pk_fit_75 : decode b_Pk_fit 75 = .ok (.iconst 3, 1) := by decide +kernel
theorem d_Pk_fit_76 : decode b_Pk_fit 76 = .ok (.iadd, 1) := by decide +kernel
theorem d_Pk_fit_77 : decode b_Pk_fit 77 = .ok (.lushr, 1) := by decide +kernel
theorem d_Pk_fit_78 : decode b_Pk_fit 78 = .ok (.ldc2_w 32, 3) := by decide +kernel
theorem d_Pk_fit_81 : decode b_Pk_fit 81 = .ok (.lcmp, 1) := by decide +kernel
theorem d_Pk_fit_82 : decode b_Pk_fit 82 = .ok (.ifCond .lt 27, 3) := by decide +kernel
theorem d_Pk_fit_85 : decode b_Pk_fit 85 = .ok (.aload_n 0, 1) := by decide +kernel
theorem d_Pk_fit_86 : decode b_Pk_fit 86 = .ok (.dup, 1) := by decide +kernel
theorem d_Pk_fit_87 : decode b_Pk_fit 87 = .ok (.getfield 15, 3) := by decide +kernel
theorem d_Pk_fit_90 : decode b_Pk_fit 90 = .ok (.iconst 1, 1) := by decide +kernel
theorem d_Pk_fit_91 : decode b_Pk_fit 91 = .ok (.iadd, 1) := by decide +kernel
theorem d_Pk_fit_92 : decode b_Pk_fit 92 = .ok (.putfield 15, 3) := by decide +kernel
theorem d_Pk_fit_95 : decode b_Pk_fit 95 = .ok (.aload_n 0, 1) := by decide +kernel
theorem d_Pk_fit_96 : decode b_Pk_fit 96 = .ok (.lload_n 1, 1) := by decide +kernel
theorem d_Pk_fit_97 : decode b_Pk_fit 97 = .ok (.invokevirtual 25, 3) := by decide +kernel
theorem d_Pk_fit_100 : decode b_Pk_fit 100 = .ok (.lstore 5, 2) := by decide +kernel
theorem d_Pk_fit_102 : decode b_Pk_fit 102 = .ok (.aload_n 0, 1) := by decide +kernel
theorem d_Pk_fit_103 : decode b_Pk_fit 103 = .ok (.lload_n 3, 1) := by decide +kernel
theorem d_Pk_fit_104 : decode b_Pk_fit 104 = .ok (.invokevirtual 29, 3) := by decide +kernel
theorem d_Pk_fit_107 : decode b_Pk_fit 107 = .ok (.lstore 7, 2) := by decide +kernel
theorem d_Pk_fit_109 : decode b_Pk_fit 109 = .ok (.aload_n 0, 1) := by decide +kernel
theorem d_Pk_fit_110 : decode b_Pk_fit 110 = .ok (.lload 5, 2) := by decide +kernel
theorem d_Pk_fit_112 : decode b_Pk_fit 112 = .ok (.lload_n 1, 1) := by decide +kernel
theorem d_Pk_fit_113 : decode b_Pk_fit 113 = .ok (.lcmp, 1) := by decide +kernel
theorem d_Pk_fit_114 : decode b_Pk_fit 114 = .ok (.ifCond .ne 14, 3) := by decide +kernel
theorem d_Pk_fit_117 : decode b_Pk_fit 117 = .ok (.lload 7, 2) := by decide +kernel
theorem d_Pk_fit_119 : decode b_Pk_fit 119 = .ok (.lload_n 3, 1) := by decide +kernel
theorem d_Pk_fit_120 : decode b_Pk_fit 120 = .ok (.lcmp, 1) := by decide +kernel
theorem d_Pk_fit_121 : decode b_Pk_fit 121 = .ok (.ifCond .ne 7, 3) := by decide +kernel
theorem d_Pk_fit_124 : decode b_Pk_fit 124 = .ok (.iconst 1, 1) := by decide +kernel
theorem d_Pk_fit_125 : decode b_Pk_fit 125 = .ok (.goto 4, 3) := by decide +kernel
theorem d_Pk_fit_128 : decode b_Pk_fit 128 = .ok (.iconst 0, 1) := by decide +kernel
theorem d_Pk_fit_129 : decode b_Pk_fit 129 = .ok (.putfield 34, 3) := by decide +kernel
theorem d_Pk_fit_132 : decode b_Pk_fit 132 = .ok (.aload_n 0, 1) := by decide +kernel
theorem d_Pk_fit_133 : decode b_Pk_fit 133 = .ok (.lload 7, 2) := by decide +kernel
theorem d_Pk_fit_135 : decode b_Pk_fit 135 = .ok (.lload 5, 2) := by decide +kernel
theorem d_Pk_fit_137 : decode b_Pk_fit 137 = .ok (.lsub, 1) := by decide +kernel
theorem d_Pk_fit_138 : decode b_Pk_fit 138 = .ok (.putfield 37, 3) := by decide +kernel
theorem d_Pk_fit_141 : decode b_Pk_fit 141 = .ok (.lload 5, 2) := by decide +kernel
theorem d_Pk_fit_143 : decode b_Pk_fit 143 = .ok (.aload_n 0, 1) := by decide +kernel
theorem d_Pk_fit_144 : decode b_Pk_fit 144 = .ok (.getfield 15, 3) := by decide +kernel
theorem d_Pk_fit_147 : decode b_Pk_fit 147 = .ok (.lushr, 1) := by decide +kernel
theorem d_Pk_fit_148 : decode b_Pk_fit 148 = .ok (.l2i, 1) := by decide +kernel
theorem d_Pk_fit_149 : decode b_Pk_fit 149 = .ok (.sipush 255, 3) := by decide +kernel
theorem d_Pk_fit_152 : decode b_Pk_fit 152 = .ok (.iand, 1) := by decide +kernel
theorem d_Pk_fit_153 : decode b_Pk_fit 153 = .ok (.istore 9, 2) := by decide +kernel
theorem d_Pk_fit_155 : decode b_Pk_fit 155 = .ok (.lload 7, 2) := by decide +kernel
theorem d_Pk_fit_157 : decode b_Pk_fit 157 = .ok (.aload_n 0, 1) := by decide +kernel
theorem d_Pk_fit_158 : decode b_Pk_fit 158 = .ok (.getfield 15, 3) := by decide +kernel
theorem d_Pk_fit_161 : decode b_Pk_fit 161 = .ok (.lushr, 1) := by decide +kernel
theorem d_Pk_fit_162 : decode b_Pk_fit 162 = .ok (.l2i, 1) := by decide +kernel
theorem d_Pk_fit_163 : decode b_Pk_fit 163 = .ok (.bipush 63, 2) := by decide +kernel
theorem d_Pk_fit_165 : decode b_Pk_fit 165 = .ok (.iand, 1) := by decide +kernel
theorem d_Pk_fit_166 : decode b_Pk_fit 166 = .ok (.istore 10, 2) := by decide +kernel
theorem d_Pk_fit_168 : decode b_Pk_fit 168 = .ok (.aload_n 0, 1) := by decide +kernel
theorem d_Pk_fit_169 : decode b_Pk_fit 169 = .ok (.iload 10, 2) := by decide +kernel
theorem d_Pk_fit_171 : decode b_Pk_fit 171 = .ok (.bipush 8, 2) := by decide +kernel
theorem d_Pk_fit_173 : decode b_Pk_fit 173 = .ok (.ishl, 1) := by decide +kernel
theorem d_Pk_fit_174 : decode b_Pk_fit 174 = .ok (.iload 9, 2) := by decide +kernel
theorem d_Pk_fit_176 : decode b_Pk_fit 176 = .ok (.ior, 1) := by decide +kernel
theorem d_Pk_fit_177 : decode b_Pk_fit 177 = .ok (.putfield 41, 3) := by decide +kernel
theorem d_Pk_fit_180 : decode b_Pk_fit 180 = .ok (.aload_n 0, 1) := by decide +kernel
theorem d_Pk_fit_181 : decode b_Pk_fit 181 = .ok (.getfield 21, 3) := by decide +kernel
theorem d_Pk_fit_184 : decode b_Pk_fit 184 = .ok (.ifCond .eq 33, 3) := by decide +kernel
theorem d_Pk_fit_187 : decode b_Pk_fit 187 = .ok (.aload_n 0, 1) := by decide +kernel
theorem d_Pk_fit_188 : decode b_Pk_fit 188 = .ok (.dup, 1) := by decide +kernel
theorem d_Pk_fit_189 : decode b_Pk_fit 189 = .ok (.getfield 41, 3) := by decide +kernel
theorem d_Pk_fit_192 : decode b_Pk_fit 192 = .ok (.sipush 16384, 3) := by decide +kernel
theorem d_Pk_fit_195 : decode b_Pk_fit 195 = .ok (.aload_n 0, 1) := by decide +kernel
theorem d_Pk_fit_196 : decode b_Pk_fit 196 = .ok (.getfield 15, 3) := by decide +kernel
theorem d_Pk_fit_199 : decode b_Pk_fit 199 = .ok (.iconst 3, 1) := by decide +kernel
theorem d_Pk_fit_200 : decode b_Pk_fit 200 = .ok (.iushr, 1) := by decide +kernel
theorem d_Pk_fit_201 : decode b_Pk_fit 201 = .ok (.bipush 8, 2) := by decide +kernel
theorem d_Pk_fit_203 : decode b_Pk_fit 203 = .ok (.ishl, 1) := by decide +kernel
theorem d_Pk_fit_204 : decode b_Pk_fit 204 = .ok (.ior, 1) := by decide +kernel
theorem d_Pk_fit_205 : decode b_Pk_fit 205 = .ok (.aload_n 0, 1) := by decide +kernel
theorem d_Pk_fit_206 : decode b_Pk_fit 206 = .ok (.getfield 15, 3) := by decide +kernel
theorem d_Pk_fit_209 : decode b_Pk_fit 209 = .ok (.bipush 7, 2) := by decide +kernel
theorem d_Pk_fit_211 : decode b_Pk_fit 211 = .ok (.iand, 1) := by decide +kernel
theorem d_Pk_fit_212 : decode b_Pk_fit 212 = .ok (.ior, 1) := by decide +kernel
theorem d_Pk_fit_213 : decode b_Pk_fit 213 = .ok (.ior, 1) := by decide +kernel
theorem d_Pk_fit_214 : decode b_Pk_fit 214 = .ok (.putfield 41, 3) := by decide +kernel
theorem d_Pk_fit_217 : decode b_Pk_fit 217 = .ok (.return_, 1) := by decide +kernel
theorem d_Pk_bitsOf_0 : decode b_Pk_bitsOf 0 = .ok (.iconst 0, 1) := by decide +kernel
theorem d_Pk_bitsOf_1 : decode b_Pk_bitsOf 1 = .ok (.istore_n 2, 1) := by decide +kernel
theorem d_Pk_bitsOf_2 : decode b_Pk_bitsOf 2 = .ok (.iload_n 2, 1) := by decide +kernel
theorem d_Pk_bitsOf_3 : decode b_Pk_bitsOf 3 = .ok (.bipush 63, 2) := by decide +kernel
theorem d_Pk_bitsOf_5 : decode b_Pk_bitsOf 5 = .ok (.if_icmp .ge 17, 3) := by decide +kernel
theorem d_Pk_bitsOf_8 : decode b_Pk_bitsOf 8 = .ok (.lload_n 0, 1) := by decide +kernel
theorem d_Pk_bitsOf_9 : decode b_Pk_bitsOf 9 = .ok (.iload_n 2, 1) := by decide +kernel
theorem d_Pk_bitsOf_10 : decode b_Pk_bitsOf 10 = .ok (.lushr, 1) := by decide +kernel
theorem d_Pk_bitsOf_11 : decode b_Pk_bitsOf 11 = .ok (.lconst 0, 1) := by decide +kernel
theorem d_Pk_bitsOf_12 : decode b_Pk_bitsOf 12 = .ok (.lcmp, 1) := by decide +kernel
theorem d_Pk_bitsOf_13 : decode b_Pk_bitsOf 13 = .ok (.ifCond .eq 9, 3) := by decide +kernel
theorem d_Pk_bitsOf_16 : decode b_Pk_bitsOf 16 = .ok (.iinc 2 1, 3) := by decide +kernel
theorem d_Pk_bitsOf_19 : decode b_Pk_bitsOf 19 = .ok (.goto (-17), 3) := by decide +kernel
theorem d_Pk_bitsOf_22 : decode b_Pk_bitsOf 22 = .ok (.iload_n 2, 1) := by decide +kernel
theorem d_Pk_bitsOf_23 : decode b_Pk_bitsOf 23 = .ok (.ireturn, 1) := by decide +kernel
theorem d_Pk_roundedDown_0 : decode b_Pk_roundedDown 0 = .ok (.lload_n 1, 1) := by decide +kernel
theorem d_Pk_roundedDown_1 : decode b_Pk_roundedDown 1 = .ok (.ldc2_w 44, 3) := by decide +kernel
theorem d_Pk_roundedDown_4 : decode b_Pk_roundedDown 4 = .ok (.aload_n 0, 1) := by decide +kernel
theorem d_Pk_roundedDown_5 : decode b_Pk_roundedDown 5 = .ok (.getfield 15, 3) := by decide +kernel
theorem d_Pk_roundedDown_8 : decode b_Pk_roundedDown 8 = .ok (.lshl, 1) := by decide +kernel
theorem d_Pk_roundedDown_9 : decode b_Pk_roundedDown 9 = .ok (.lneg, 1) := by decide +kernel
theorem d_Pk_roundedDown_10 : decode b_Pk_roundedDown 10 = .ok (.land, 1) := by decide +kernel
theorem d_Pk_roundedDown_11 : decode b_Pk_roundedDown 11 = .ok (.lreturn, 1) := by decide +kernel
theorem d_Pk_roundedUp_0 : decode b_Pk_roundedUp 0 = .ok (.ldc2_w 44, 3) := by decide +kernel
theorem d_Pk_roundedUp_3 : decode b_Pk_roundedUp 3 = .ok (.aload_n 0, 1) := by decide +kernel
theorem d_Pk_roundedUp_4 : decode b_Pk_roundedUp 4 = .ok (.getfield 15, 3) := by decide +kernel
theorem d_Pk_roundedUp_7 : decode b_Pk_roundedUp 7 = .ok (.lshl, 1) := by decide +kernel
theorem d_Pk_roundedUp_8 : decode b_Pk_roundedUp 8 = .ok (.lstore_n 3, 1) := by decide +kernel
theorem d_Pk_roundedUp_9 : decode b_Pk_roundedUp 9 = .ok (.lload_n 1, 1) := by decide +kernel
theorem d_Pk_roundedUp_10 : decode b_Pk_roundedUp 10 = .ok (.lload_n 3, 1) := by decide +kernel
theorem d_Pk_roundedUp_11 : decode b_Pk_roundedUp 11 = .ok (.ladd, 1) := by decide +kernel
theorem d_Pk_roundedUp_12 : decode b_Pk_roundedUp 12 = .ok (.lconst 1, 1) := by decide +kernel
theorem d_Pk_roundedUp_13 : decode b_Pk_roundedUp 13 = .ok (.lsub, 1) := by decide +kernel
theorem d_Pk_roundedUp_14 : decode b_Pk_roundedUp 14 = .ok (.lload_n 3, 1) := by decide +kernel
theorem d_Pk_roundedUp_15 : decode b_Pk_roundedUp 15 = .ok (.lneg, 1) := by decide +kernel
theorem d_Pk_roundedUp_16 : decode b_Pk_roundedUp 16 = .ok (.land, 1) := by decide +kernel
theorem d_Pk_roundedUp_17 : decode b_Pk_roundedUp 17 = .ok (.lreturn, 1) := by decide +kernel
theorem d_Cap_become_0 : decode b_Cap_become 0 = .ok (.aload_n 0, 1) := by decide +kernel
theorem d_Cap_become_1 : decode b_Cap_become 1 = .ok (.aload_n 1, 1) := by decide +kernel
theorem d_Cap_become_2 : decode b_Cap_become 2 = .ok (.getfield 22, 3) := by decide +kernel
theorem d_Cap_become_5 : decode b_Cap_become 5 = .ok (.putfield 22, 3) := by decide +kernel
theorem d_Cap_become_8 : decode b_Cap_become 8 = .ok (.aload_n 0, 1) := by decide +kernel
theorem d_Cap_become_9 : decode b_Cap_become 9 = .ok (.aload_n 1, 1) := by decide +kernel
theorem d_Cap_become_10 : decode b_Cap_become 10 = .ok (.getfield 26, 3) := by decide +kernel
theorem d_Cap_become_13 : decode b_Cap_become 13 = .ok (.putfield 26, 3) := by decide +kernel
theorem d_Cap_become_16 : decode b_Cap_become 16 = .ok (.aload_n 0, 1) := by decide +kernel
theorem d_Cap_become_17 : decode b_Cap_become 17 = .ok (.aload_n 1, 1) := by decide +kernel
theorem d_Cap_become_18 : decode b_Cap_become 18 = .ok (.getfield 10, 3) := by decide +kernel
theorem d_Cap_become_21 : decode b_Cap_become 21 = .ok (.putfield 10, 3) := by decide +kernel
theorem d_Cap_become_24 : decode b_Cap_become 24 = .ok (.aload_n 0, 1) := by decide +kernel
theorem d_Cap_become_25 : decode b_Cap_become 25 = .ok (.aload_n 1, 1) := by decide +kernel
theorem d_Cap_become_26 : decode b_Cap_become 26 = .ok (.getfield 29, 3) := by decide +kernel
theorem d_Cap_become_29 : decode b_Cap_become 29 = .ok (.putfield 29, 3) := by decide +kernel
theorem d_Cap_become_32 : decode b_Cap_become 32 = .ok (.aload_n 0, 1) := by decide +kernel
theorem d_Cap_become_33 : decode b_Cap_become 33 = .ok (.aload_n 1, 1) := by decide +kernel
theorem d_Cap_become_34 : decode b_Cap_become 34 = .ok (.getfield 18, 3) := by decide +kernel
theorem d_Cap_become_37 : decode b_Cap_become 37 = .ok (.putfield 18, 3) := by decide +kernel
theorem d_Cap_become_40 : decode b_Cap_become 40 = .ok (.return_, 1) := by decide +kernel
theorem d_Cap_isOpen_0 : decode b_Cap_isOpen 0 = .ok (.aload_n 0, 1) := by decide +kernel
theorem d_Cap_isOpen_1 : decode b_Cap_isOpen 1 = .ok (.invokevirtual 45, 3) := by decide +kernel
theorem d_Cap_isOpen_4 : decode b_Cap_isOpen 4 = .ok (.bipush 15, 2) := by decide +kernel
theorem d_Cap_isOpen_6 : decode b_Cap_isOpen 6 = .ok (.if_icmp .ne 7, 3) := by decide +kernel
theorem d_Cap_isOpen_9 : decode b_Cap_isOpen 9 = .ok (.iconst 1, 1) := by decide +kernel
theorem d_Cap_isOpen_10 : decode b_Cap_isOpen 10 = .ok (.goto 4, 3) := by decide +kernel
theorem d_Cap_isOpen_13 : decode b_Cap_isOpen 13 = .ok (.iconst 0, 1) := by decide +kernel
theorem d_Cap_isOpen_14 : decode b_Cap_isOpen 14 = .ok (.ireturn, 1) := by decide +kernel
theorem d_Cap_type_0 : decode b_Cap_type 0 = .ok (.aload_n 0, 1) := by decide +kernel
theorem d_Cap_type_1 : decode b_Cap_type 1 = .ok (.getfield 10, 3) := by decide +kernel
theorem d_Cap_type_4 : decode b_Cap_type 4 = .ok (.bipush 16, 2) := by decide +kernel
theorem d_Cap_type_6 : decode b_Cap_type 6 = .ok (.iushr, 1) := by decide +kernel
theorem d_Cap_type_7 : decode b_Cap_type 7 = .ok (.bipush 15, 2) := by decide +kernel
theorem d_Cap_type_9 : decode b_Cap_type 9 = .ok (.iand, 1) := by decide +kernel
theorem d_Cap_type_10 : decode b_Cap_type 10 = .ok (.ireturn, 1) := by decide +kernel
theorem d_Cap_may_0 : decode b_Cap_may 0 = .ok (.aload_n 0, 1) := by decide +kernel
theorem d_Cap_may_1 : decode b_Cap_may 1 = .ok (.invokevirtual 41, 3) := by decide +kernel
theorem d_Cap_may_4 : decode b_Cap_may 4 = .ok (.iload_n 1, 1) := by decide +kernel
theorem d_Cap_may_5 : decode b_Cap_may 5 = .ok (.iushr, 1) := by decide +kernel
theorem d_Cap_may_6 : decode b_Cap_may 6 = .ok (.iconst 1, 1) := by decide +kernel
theorem d_Cap_may_7 : decode b_Cap_may 7 = .ok (.iand, 1) := by decide +kernel
theorem d_Cap_may_8 : decode b_Cap_may 8 = .ok (.ifCond .eq 7, 3) := by decide +kernel
theorem d_Cap_may_11 : decode b_Cap_may 11 = .ok (.iconst 1, 1) := by decide +kernel
theorem d_Cap_may_12 : decode b_Cap_may 12 = .ok (.goto 4, 3) := by decide +kernel
theorem d_Cap_may_15 : decode b_Cap_may 15 = .ok (.iconst 0, 1) := by decide +kernel
theorem d_Cap_may_16 : decode b_Cap_may 16 = .ok (.ireturn, 1) := by decide +kernel
theorem d_Cap_covers_0 : decode b_Cap_covers 0 = .ok (.iload_n 1, 1) := by decide +kernel
theorem d_Cap_covers_1 : decode b_Cap_covers 1 = .ok (.i2l, 1) := by decide +kernel
theorem d_Cap_covers_2 : decode b_Cap_covers 2 = .ok (.ldc2_w 48, 3) := by decide +kernel
theorem d_Cap_covers_5 : decode b_Cap_covers 5 = .ok (.land, 1) := by decide +kernel
theorem d_Cap_covers_6 : decode b_Cap_covers 6 = .ok (.lstore 4, 2) := by decide +kernel
theorem d_Cap_covers_8 : decode b_Cap_covers 8 = .ok (.aload_n 0, 1) := by decide +kernel
theorem d_Cap_covers_9 : decode b_Cap_covers 9 = .ok (.getfield 29, 3) := by decide +kernel
theorem d_Cap_covers_12 : decode b_Cap_covers 12 = .ok (.lload 4, 2) := by decide +kernel
theorem d_Cap_covers_14 : decode b_Cap_covers 14 = .ok (.lcmp, 1) := by decide +kernel
theorem d_Cap_covers_15 : decode b_Cap_covers 15 = .ok (.ifCond .gt 19, 3) := by decide +kernel
theorem d_Cap_covers_18 : decode b_Cap_covers 18 = .ok (.lload 4, 2) := by decide +kernel
theorem d_Cap_covers_20 : decode b_Cap_covers 20 = .ok (.lload_n 2, 1) := by decide +kernel
theorem d_Cap_covers_21 : decode b_Cap_covers 21 = .ok (.ladd, 1) := by decide +kernel
theorem d_Cap_covers_22 : decode b_Cap_covers 22 = .ok (.aload_n 0, 1) := by decide +kernel
theorem d_Cap_covers_23 : decode b_Cap_covers 23 = .ok (.getfield 18, 3) := by decide +kernel
theorem d_Cap_covers_26 : decode b_Cap_covers 26 = .ok (.lcmp, 1) := by decide +kernel
theorem d_Cap_covers_27 : decode b_Cap_covers 27 = .ok (.ifCond .gt 7, 3) := by decide +kernel
theorem d_Cap_covers_30 : decode b_Cap_covers 30 = .ok (.iconst 1, 1) := by decide +kernel
theorem d_Cap_covers_31 : decode b_Cap_covers 31 = .ok (.goto 4, 3) := by decide +kernel
theorem d_Cap_covers_34 : decode b_Cap_covers 34 = .ok (.iconst 0, 1) := by decide +kernel
theorem d_Cap_covers_35 : decode b_Cap_covers 35 = .ok (.ireturn, 1) := by decide +kernel
theorem d_Math_minL_0 : decode b_Math_minL 0 = .ok (.lload_n 0, 1) := by decide +kernel
theorem d_Math_minL_1 : decode b_Math_minL 1 = .ok (.lload_n 2, 1) := by decide +kernel
theorem d_Math_minL_2 : decode b_Math_minL 2 = .ok (.lcmp, 1) := by decide +kernel
theorem d_Math_minL_3 : decode b_Math_minL 3 = .ok (.ifCond .gt 7, 3) := by decide +kernel
theorem d_Math_minL_6 : decode b_Math_minL 6 = .ok (.lload_n 0, 1) := by decide +kernel
theorem d_Math_minL_7 : decode b_Math_minL 7 = .ok (.goto 4, 3) := by decide +kernel
theorem d_Math_minL_10 : decode b_Math_minL 10 = .ok (.lload_n 2, 1) := by decide +kernel
theorem d_Math_minL_11 : decode b_Math_minL 11 = .ok (.lreturn, 1) := by decide +kernel
theorem d_Cap_setBounds_0 : decode b_Cap_setBounds 0 = .ok (.aload_n 0, 1) := by decide +kernel
theorem d_Cap_setBounds_1 : decode b_Cap_setBounds 1 = .ok (.aload_n 0, 1) := by decide +kernel
theorem d_Cap_setBounds_2 : decode b_Cap_setBounds 2 = .ok (.getfield 10, 3) := by decide +kernel
theorem d_Cap_setBounds_5 : decode b_Cap_setBounds 5 = .ok (.sipush (-32768), 3) := by decide +kernel
theorem d_Cap_setBounds_8 : decode b_Cap_setBounds 8 = .ok (.iand, 1) := by decide +kernel
theorem d_Cap_setBounds_9 : decode b_Cap_setBounds 9 = .ok (.iload_n 1, 1) := by decide +kernel
theorem d_Cap_setBounds_10 : decode b_Cap_setBounds 10 = .ok (.ior, 1) := by decide +kernel
theorem d_Cap_setBounds_11 : decode b_Cap_setBounds 11 = .ok (.putfield 10, 3) := by decide +kernel
theorem d_Cap_setBounds_14 : decode b_Cap_setBounds 14 = .ok (.aload_n 0, 1) := by decide +kernel
theorem d_Cap_setBounds_15 : decode b_Cap_setBounds 15 = .ok (.invokevirtual 32, 3) := by decide +kernel
theorem d_Cap_setBounds_18 : decode b_Cap_setBounds 18 = .ok (.return_, 1) := by decide +kernel
theorem d_Cap_setType_0 : decode b_Cap_setType 0 = .ok (.aload_n 0, 1) := by decide +kernel
theorem d_Cap_setType_1 : decode b_Cap_setType 1 = .ok (.aload_n 0, 1) := by decide +kernel
theorem d_Cap_setType_2 : decode b_Cap_setType 2 = .ok (.getfield 10, 3) := by decide +kernel
theorem d_Cap_setType_5 : decode b_Cap_setType 5 = .ok (.ldc 39, 2) := by decide +kernel
theorem d_Cap_setType_7 : decode b_Cap_setType 7 = .ok (.iand, 1) := by decide +kernel
theorem d_Cap_setType_8 : decode b_Cap_setType 8 = .ok (.iload_n 1, 1) := by decide +kernel
theorem d_Cap_setType_9 : decode b_Cap_setType 9 = .ok (.bipush 16, 2) := by decide +kernel
theorem d_Cap_setType_11 : decode b_Cap_setType 11 = .ok (.ishl, 1) := by decide +kernel
theorem d_Cap_setType_12 : decode b_Cap_setType 12 = .ok (.ior, 1) := by decide +kernel
theorem d_Cap_setType_13 : decode b_Cap_setType 13 = .ok (.putfield 10, 3) := by decide +kernel
theorem d_Cap_setType_16 : decode b_Cap_setType 16 = .ok (.return_, 1) := by decide +kernel
theorem d_Cap_setPerms_0 : decode b_Cap_setPerms 0 = .ok (.aload_n 0, 1) := by decide +kernel
theorem d_Cap_setPerms_1 : decode b_Cap_setPerms 1 = .ok (.aload_n 0, 1) := by decide +kernel
theorem d_Cap_setPerms_2 : decode b_Cap_setPerms 2 = .ok (.getfield 10, 3) := by decide +kernel
theorem d_Cap_setPerms_5 : decode b_Cap_setPerms 5 = .ok (.ldc 40, 2) := by decide +kernel
theorem d_Cap_setPerms_7 : decode b_Cap_setPerms 7 = .ok (.iand, 1) := by decide +kernel
theorem d_Cap_setPerms_8 : decode b_Cap_setPerms 8 = .ok (.iload_n 1, 1) := by decide +kernel
theorem d_Cap_setPerms_9 : decode b_Cap_setPerms 9 = .ok (.bipush 20, 2) := by decide +kernel
theorem d_Cap_setPerms_11 : decode b_Cap_setPerms 11 = .ok (.ishl, 1) := by decide +kernel
theorem d_Cap_setPerms_12 : decode b_Cap_setPerms 12 = .ok (.ior, 1) := by decide +kernel
theorem d_Cap_setPerms_13 : decode b_Cap_setPerms 13 = .ok (.putfield 10, 3) := by decide +kernel
theorem d_Cap_setPerms_16 : decode b_Cap_setPerms 16 = .ok (.return_, 1) := by decide +kernel
theorem d_Cap_moveTo_0 : decode b_Cap_moveTo 0 = .ok (.aload_n 0, 1) := by decide +kernel
theorem d_Cap_moveTo_1 : decode b_Cap_moveTo 1 = .ok (.getfield 29, 3) := by decide +kernel
theorem d_Cap_moveTo_4 : decode b_Cap_moveTo 4 = .ok (.lstore_n 2, 1) := by decide +kernel
theorem d_Cap_moveTo_5 : decode b_Cap_moveTo 5 = .ok (.aload_n 0, 1) := by decide +kernel
theorem d_Cap_moveTo_6 : decode b_Cap_moveTo 6 = .ok (.getfield 18, 3) := by decide +kernel
theorem d_Cap_moveTo_9 : decode b_Cap_moveTo 9 = .ok (.lstore 4, 2) := by decide +kernel
theorem d_Cap_moveTo_11 : decode b_Cap_moveTo 11 = .ok (.aload_n 0, 1) := by decide +kernel
theorem d_Cap_moveTo_12 : decode b_Cap_moveTo 12 = .ok (.iload_n 1, 1) := by decide +kernel
theorem d_Cap_moveTo_13 : decode b_Cap_moveTo 13 = .ok (.putfield 26, 3) := by decide +kernel
theorem d_Cap_moveTo_16 : decode b_Cap_moveTo 16 = .ok (.aload_n 0, 1) := by decide +kernel
theorem d_Cap_moveTo_17 : decode b_Cap_moveTo 17 = .ok (.invokevirtual 32, 3) := by decide +kernel
theorem d_Cap_moveTo_20 : decode b_Cap_moveTo 20 = .ok (.aload_n 0, 1) := by decide +kernel
theorem d_Cap_moveTo_21 : decode b_Cap_moveTo 21 = .ok (.aload_n 0, 1) := by decide +kernel
theorem d_Cap_moveTo_22 : decode b_Cap_moveTo 22 = .ok (.getfield 22, 3) := by decide +kernel
theorem d_Cap_moveTo_25 : decode b_Cap_moveTo 25 = .ok (.ifCond .eq 33, 3) := by decide +kernel
theorem d_Cap_moveTo_28 : decode b_Cap_moveTo 28 = .ok (.aload_n 0, 1) := by decide +kernel
theorem d_Cap_moveTo_29 : decode b_Cap_moveTo 29 = .ok (.invokevirtual 35, 3) := by decide +kernel
theorem d_Cap_moveTo_32 : decode b_Cap_moveTo 32 = .ok (.ifCond .eq 26, 3) := by decide +kernel
theorem d_Cap_moveTo_35 : decode b_Cap_moveTo 35 = .ok (.aload_n 0, 1) := by decide +kernel
theorem d_Cap_moveTo_36 : decode b_Cap_moveTo 36 = .ok (.getfield 29, 3) := by decide +kernel
theorem d_Cap_moveTo_39 : decode b_Cap_moveTo 39 = .ok (.lload_n 2, 1) := by decide +kernel
theorem d_Cap_moveTo_40 : decode b_Cap_moveTo 40 = .ok (.lcmp, 1) := by decide +kernel
theorem d_Cap_moveTo_41 : decode b_Cap_moveTo 41 = .ok (.ifCond .ne 17, 3) := by decide +kernel
theorem d_Cap_moveTo_44 : decode b_Cap_moveTo 44 = .ok (.aload_n 0, 1) := by decide +kernel
theorem d_Cap_moveTo_45 : decode b_Cap_moveTo 45 = .ok (.getfield 18, 3) := by decide +kernel
theorem d_Cap_moveTo_48 : decode b_Cap_moveTo 48 = .ok (.lload 4, 2) := by decide +kernel
theorem d_Cap_moveTo_50 : decode b_Cap_moveTo 50 = .ok (.lcmp, 1) := by decide +kernel
theorem d_Cap_moveTo_51 : decode b_Cap_moveTo 51 = .ok (.ifCond .ne 7, 3) := by decide +kernel
theorem d_Cap_moveTo_54 : decode b_Cap_moveTo 54 = .ok (.iconst 1, 1) := by decide +kernel
theorem d_Cap_moveTo_55 : decode b_Cap_moveTo 55 = .ok (.goto 4, 3) := by decide +kernel
theorem d_Cap_moveTo_58 : decode b_Cap_moveTo 58 = .ok (.iconst 0, 1) := by decide +kernel
theorem d_Cap_moveTo_59 : decode b_Cap_moveTo 59 = .ok (.putfield 22, 3) := by decide +kernel
theorem d_Cap_moveTo_62 : decode b_Cap_moveTo 62 = .ok (.return_, 1) := by decide +kernel
theorem d_Cap_becomeNumber_0 : decode b_Cap_becomeNumber 0 = .ok (.aload_n 0, 1) := by decide +kernel
theorem d_Cap_becomeNumber_1 : decode b_Cap_becomeNumber 1 = .ok (.iconst 0, 1) := by decide +kernel
theorem d_Cap_becomeNumber_2 : decode b_Cap_becomeNumber 2 = .ok (.putfield 22, 3) := by decide +kernel
theorem d_Cap_becomeNumber_5 : decode b_Cap_becomeNumber 5 = .ok (.aload_n 0, 1) := by decide +kernel
theorem d_Cap_becomeNumber_6 : decode b_Cap_becomeNumber 6 = .ok (.iload_n 1, 1) := by decide +kernel
theorem d_Cap_becomeNumber_7 : decode b_Cap_becomeNumber 7 = .ok (.putfield 26, 3) := by decide +kernel
theorem d_Cap_becomeNumber_10 : decode b_Cap_becomeNumber 10 = .ok (.aload_n 0, 1) := by decide +kernel
theorem d_Cap_becomeNumber_11 : decode b_Cap_becomeNumber 11 = .ok (.ldc 9, 2) := by decide +kernel
theorem d_Cap_becomeNumber_13 : decode b_Cap_becomeNumber 13 = .ok (.putfield 10, 3) := by decide +kernel
theorem d_Cap_becomeNumber_16 : decode b_Cap_becomeNumber 16 = .ok (.aload_n 0, 1) := by decide +kernel
theorem d_Cap_becomeNumber_17 : decode b_Cap_becomeNumber 17 = .ok (.lconst 0, 1) := by decide +kernel
theorem d_Cap_becomeNumber_18 : decode b_Cap_becomeNumber 18 = .ok (.putfield 29, 3) := by decide +kernel
theorem d_Cap_becomeNumber_21 : decode b_Cap_becomeNumber 21 = .ok (.aload_n 0, 1) := by decide +kernel
theorem d_Cap_becomeNumber_22 : decode b_Cap_becomeNumber 22 = .ok (.ldc2_w 16, 3) := by decide +kernel
theorem d_Cap_becomeNumber_25 : decode b_Cap_becomeNumber 25 = .ok (.putfield 18, 3) := by decide +kernel
theorem d_Cap_becomeNumber_28 : decode b_Cap_becomeNumber 28 = .ok (.return_, 1) := by decide +kernel
theorem d_Cap_length_0 : decode b_Cap_length 0 = .ok (.aload_n 0, 1) := by decide +kernel
theorem d_Cap_length_1 : decode b_Cap_length 1 = .ok (.getfield 18, 3) := by decide +kernel
theorem d_Cap_length_4 : decode b_Cap_length 4 = .ok (.aload_n 0, 1) := by decide +kernel
theorem d_Cap_length_5 : decode b_Cap_length 5 = .ok (.getfield 29, 3) := by decide +kernel
theorem d_Cap_length_8 : decode b_Cap_length 8 = .ok (.lsub, 1) := by decide +kernel
theorem d_Cap_length_9 : decode b_Cap_length 9 = .ok (.ldc2_w 48, 3) := by decide +kernel
theorem d_Cap_length_12 : decode b_Cap_length 12 = .ok (.invokestatic 50, 3) := by decide +kernel
theorem d_Cap_length_15 : decode b_Cap_length 15 = .ok (.l2i, 1) := by decide +kernel
theorem d_Cap_length_16 : decode b_Cap_length 16 = .ok (.ireturn, 1) := by decide +kernel
theorem d_Cap_toldMeta_0 : decode b_Cap_toldMeta 0 = .ok (.aload_n 0, 1) := by decide +kernel
theorem d_Cap_toldMeta_1 : decode b_Cap_toldMeta 1 = .ok (.getfield 10, 3) := by decide +kernel
theorem d_Cap_toldMeta_4 : decode b_Cap_toldMeta 4 = .ok (.ldc 9, 2) := by decide +kernel
theorem d_Cap_toldMeta_6 : decode b_Cap_toldMeta 6 = .ok (.ixor, 1) := by decide +kernel
theorem d_Cap_toldMeta_7 : decode b_Cap_toldMeta 7 = .ok (.ireturn, 1) := by decide +kernel
theorem d_Int_compareUnsigned_0 : decode b_Int_compareUnsigned 0 = .ok (.iload_n 0, 1) := by decide +kernel
theorem d_Int_compareUnsigned_1 : decode b_Int_compareUnsigned 1 = .ok (.ldc 127, 2) := by decide +kernel
theorem d_Int_compareUnsigned_3 : decode b_Int_compareUnsigned 3 = .ok (.iadd, 1) := by decide +kernel
theorem d_Int_compareUnsigned_4 : decode b_Int_compareUnsigned 4 = .ok (.iload_n 1, 1) := by decide +kernel
theorem d_Int_compareUnsigned_5 : decode b_Int_compareUnsigned 5 = .ok (.ldc 127, 2) := by decide +kernel
theorem d_Int_compareUnsigned_7 : decode b_Int_compareUnsigned 7 = .ok (.iadd, 1) := by decide +kernel
theorem d_Int_compareUnsigned_8 : decode b_Int_compareUnsigned 8 = .ok (.invokestatic 259, 3) := by decide +kernel
theorem d_Int_compareUnsigned_11 : decode b_Int_compareUnsigned 11 = .ok (.ireturn, 1) := by decide +kernel
theorem d_Int_compare_0 : decode b_Int_compare 0 = .ok (.iload_n 0, 1) := by decide +kernel
theorem d_Int_compare_1 : decode b_Int_compare 1 = .ok (.iload_n 1, 1) := by decide +kernel
theorem d_Int_compare_2 : decode b_Int_compare 2 = .ok (.if_icmp .ge 7, 3) := by decide +kernel
theorem d_Int_compare_5 : decode b_Int_compare 5 = .ok (.iconst (-1), 1) := by decide +kernel
theorem d_Int_compare_6 : decode b_Int_compare 6 = .ok (.goto 13, 3) := by decide +kernel
theorem d_Int_compare_9 : decode b_Int_compare 9 = .ok (.iload_n 0, 1) := by decide +kernel
theorem d_Int_compare_10 : decode b_Int_compare 10 = .ok (.iload_n 1, 1) := by decide +kernel
theorem d_Int_compare_11 : decode b_Int_compare 11 = .ok (.if_icmp .ne 7, 3) := by decide +kernel
theorem d_Int_compare_14 : decode b_Int_compare 14 = .ok (.iconst 0, 1) := by decide +kernel
theorem d_Int_compare_15 : decode b_Int_compare 15 = .ok (.goto 4, 3) := by decide +kernel
theorem d_Int_compare_18 : decode b_Int_compare 18 = .ok (.iconst 1, 1) := by decide +kernel
theorem d_Int_compare_19 : decode b_Int_compare 19 = .ok (.ireturn, 1) := by decide +kernel
theorem d_Math_floorModL_0 : decode b_Math_floorModL 0 = .ok (.lload_n 0, 1) := by decide +kernel
theorem d_Math_floorModL_1 : decode b_Math_floorModL 1 = .ok (.lload_n 2, 1) := by decide +kernel
theorem d_Math_floorModL_2 : decode b_Math_floorModL 2 = .ok (.lrem, 1) := by decide +kernel
theorem d_Math_floorModL_3 : decode b_Math_floorModL 3 = .ok (.lstore 4, 2) := by decide +kernel
theorem d_Math_floorModL_5 : decode b_Math_floorModL 5 = .ok (.lload_n 0, 1) := by decide +kernel
theorem d_Math_floorModL_6 : decode b_Math_floorModL 6 = .ok (.lload_n 2, 1) := by decide +kernel
theorem d_Math_floorModL_7 : decode b_Math_floorModL 7 = .ok (.lxor, 1) := by decide +kernel
theorem d_Math_floorModL_8 : decode b_Math_floorModL 8 = .ok (.lconst 0, 1) := by decide +kernel
theorem d_Math_floorModL_9 : decode b_Math_floorModL 9 = .ok (.lcmp, 1) := by decide +kernel
theorem d_Math_floorModL_10 : decode b_Math_floorModL 10 = .ok (.ifCond .ge 15, 3) := by decide +kernel
theorem d_Math_floorModL_13 : decode b_Math_floorModL 13 = .ok (.lload 4, 2) := by decide +kernel
theorem d_Math_floorModL_15 : decode b_Math_floorModL 15 = .ok (.lconst 0, 1) := by decide +kernel
theorem d_Math_floorModL_16 : decode b_Math_floorModL 16 = .ok (.lcmp, 1) := by decide +kernel
theorem d_Math_floorModL_17 : decode b_Math_floorModL 17 = .ok (.ifCond .eq 8, 3) := by decide +kernel
theorem d_Math_floorModL_20 : decode b_Math_floorModL 20 = .ok (.lload 4, 2) := by decide +kernel
theorem d_Math_floorModL_22 : decode b_Math_floorModL 22 = .ok (.lload_n 2, 1) := by decide +kernel
theorem d_Math_floorModL_23 : decode b_Math_floorModL 23 = .ok (.ladd, 1) := by decide +kernel
theorem d_Math_floorModL_24 : decode b_Math_floorModL 24 = .ok (.lreturn, 1) := by decide +kernel
theorem d_Math_floorModL_25 : decode b_Math_floorModL 25 = .ok (.lload 4, 2) := by decide +kernel
theorem d_Math_floorModL_27 : decode b_Math_floorModL 27 = .ok (.lreturn, 1) := by decide +kernel
