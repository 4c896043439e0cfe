theorem d_Bas_init_0 : decode b_Bas_init 0 = .ok (.aload_n 0, 1) := by decide +kernel
theorem d_Bas_init_1 : decode b_Bas_init 1 = .ok (.invokespecial 3, 3) := by decide +kernel
theorem d_Bas_init_4 : decode b_Bas_init 4 = .ok (.aload_n 0, 1) := by decide +kernel
theorem d_Bas_init_5 : decode b_Bas_init 5 = .ok (.new 9, 3) := by decide +kernel
theorem d_Bas_init_8 : decode b_Bas_init 8 = .ok (.dup, 1) := by decide +kernel
theorem d_Bas_init_9 : decode b_Bas_init 9 = .ok (.invokespecial 11, 3) := by decide +kernel
theorem d_Bas_init_12 : decode b_Bas_init 12 = .ok (.putfield 12, 3) := by decide +kernel
theorem d_Bas_init_15 : decode b_Bas_init 15 = .ok (.aload_n 0, 1) := by decide +kernel
theorem d_Bas_init_16 : decode b_Bas_init 16 = .ok (.aload_n 1, 1) := by decide +kernel
theorem d_Bas_init_17 : decode b_Bas_init 17 = .ok (.putfield 18, 3) := by decide +kernel
theorem d_Bas_init_20 : decode b_Bas_init 20 = .ok (.return_, 1) := by decide +kernel
theorem d_Bas_execute_0 : decode b_Bas_execute 0 = .ok (.aload_n 1, 1) := by decide +kernel
theorem d_Bas_execute_1 : decode b_Bas_execute 1 = .ok (.getfield 22, 3) := by decide +kernel
theorem d_Bas_execute_4 : decode b_Bas_execute 4 = .ok (.lookupswitch 190 #[(3, 100), (15, 106), (19, 126), (23, 132), (35, 138), (51, 144), (55, 150), (99, 166), (103, 172), (111, 178), (115, 184)], 100) := by decide +kernel
theorem d_Bas_execute_104 : decode b_Bas_execute 104 = .ok (.aload_n 0, 1) := by decide +kernel
theorem d_Bas_execute_105 : decode b_Bas_execute 105 = .ok (.aload_n 1, 1) := by decide +kernel
theorem d_Bas_execute_106 : decode b_Bas_execute 106 = .ok (.invokevirtual 28, 3) := by decide +kernel
theorem d_Bas_execute_109 : decode b_Bas_execute 109 = .ok (.ireturn, 1) := by decide +kernel
theorem d_Bas_execute_110 : decode b_Bas_execute 110 = .ok (.aload_n 1, 1) := by decide +kernel
theorem d_Bas_execute_111 : decode b_Bas_execute 111 = .ok (.getfield 32, 3) := by decide +kernel
theorem d_Bas_execute_114 : decode b_Bas_execute 114 = .ok (.ifCond .ne 7, 3) := by decide +kernel
theorem d_Bas_execute_117 : decode b_Bas_execute 117 = .ok (.iconst (-1), 1) := by decide +kernel
theorem d_Bas_execute_118 : decode b_Bas_execute 118 = .ok (.goto 11, 3) := by decide +kernel
theorem d_Bas_execute_121 : decode b_Bas_execute 121 = .ok (.aload_n 0, 1) := by decide +kernel
theorem d_Bas_execute_122 : decode b_Bas_execute 122 = .ok (.getfield 18, 3) := by decide +kernel
theorem d_Bas_execute_125 : decode b_Bas_execute 125 = .ok (.aload_n 1, 1) := by decide +kernel
theorem d_Bas_execute_126 : decode b_Bas_execute 126 = .ok (.invokevirtual 35, 3) := by decide +kernel
theorem d_Bas_execute_129 : decode b_Bas_execute 129 = .ok (.ireturn, 1) := by decide +kernel
theorem d_Bas_execute_130 : decode b_Bas_execute 130 = .ok (.aload_n 0, 1) := by decide +kernel
theorem d_Bas_execute_131 : decode b_Bas_execute 131 = .ok (.aload_n 1, 1) := by decide +kernel
theorem d_Bas_execute_132 : decode b_Bas_execute 132 = .ok (.invokevirtual 40, 3) := by decide +kernel
theorem d_Bas_execute_135 : decode b_Bas_execute 135 = .ok (.ireturn, 1) := by decide +kernel
theorem d_Bas_execute_136 : decode b_Bas_execute 136 = .ok (.aload_n 0, 1) := by decide +kernel
theorem d_Bas_execute_137 : decode b_Bas_execute 137 = .ok (.aload_n 1, 1) := by decide +kernel
theorem d_Bas_execute_138 : decode b_Bas_execute 138 = .ok (.invokevirtual 43, 3) := by decide +kernel
theorem d_Bas_execute_141 : decode b_Bas_execute 141 = .ok (.ireturn, 1) := by decide +kernel
theorem d_Bas_execute_142 : decode b_Bas_execute 142 = .ok (.aload_n 0, 1) := by decide +kernel
theorem d_Bas_execute_143 : decode b_Bas_execute 143 = .ok (.aload_n 1, 1) := by decide +kernel
theorem d_Bas_execute_144 : decode b_Bas_execute 144 = .ok (.invokevirtual 46, 3) := by decide +kernel
theorem d_Bas_execute_147 : decode b_Bas_execute 147 = .ok (.ireturn, 1) := by decide +kernel
theorem d_Bas_execute_148 : decode b_Bas_execute 148 = .ok (.aload_n 0, 1) := by decide +kernel
theorem d_Bas_execute_149 : decode b_Bas_execute 149 = .ok (.aload_n 1, 1) := by decide +kernel
theorem d_Bas_execute_150 : decode b_Bas_execute 150 = .ok (.invokevirtual 49, 3) := by decide +kernel
theorem d_Bas_execute_153 : decode b_Bas_execute 153 = .ok (.ireturn, 1) := by decide +kernel
theorem d_Bas_execute_154 : decode b_Bas_execute 154 = .ok (.aload_n 0, 1) := by decide +kernel
theorem d_Bas_execute_155 : decode b_Bas_execute 155 = .ok (.getfield 18, 3) := by decide +kernel
theorem d_Bas_execute_158 : decode b_Bas_execute 158 = .ok (.aload_n 1, 1) := by decide +kernel
theorem d_Bas_execute_159 : decode b_Bas_execute 159 = .ok (.getfield 52, 3) := by decide +kernel
theorem d_Bas_execute_162 : decode b_Bas_execute 162 = .ok (.aload_n 1, 1) := by decide +kernel
theorem d_Bas_execute_163 : decode b_Bas_execute 163 = .ok (.getfield 55, 3) := by decide +kernel
theorem d_Bas_execute_166 : decode b_Bas_execute 166 = .ok (.invokevirtual 58, 3) := by decide +kernel
theorem d_Bas_execute_169 : decode b_Bas_execute 169 = .ok (.ireturn, 1) := by decide +kernel
theorem d_Bas_execute_170 : decode b_Bas_execute 170 = .ok (.aload_n 0, 1) := by decide +kernel
theorem d_Bas_execute_171 : decode b_Bas_execute 171 = .ok (.aload_n 1, 1) := by decide +kernel
theorem d_Bas_execute_172 : decode b_Bas_execute 172 = .ok (.invokevirtual 62, 3) := by decide +kernel
theorem d_Bas_execute_175 : decode b_Bas_execute 175 = .ok (.ireturn, 1) := by decide +kernel
theorem d_Bas_execute_176 : decode b_Bas_execute 176 = .ok (.aload_n 0, 1) := by decide +kernel
theorem d_Bas_execute_177 : decode b_Bas_execute 177 = .ok (.aload_n 1, 1) := by decide +kernel
theorem d_Bas_execute_178 : decode b_Bas_execute 178 = .ok (.invokevirtual 65, 3) := by decide +kernel
theorem d_Bas_execute_181 : decode b_Bas_execute 181 = .ok (.ireturn, 1) := by decide +kernel
theorem d_Bas_execute_182 : decode b_Bas_execute 182 = .ok (.aload_n 0, 1) := by decide +kernel
theorem d_Bas_execute_183 : decode b_Bas_execute 183 = .ok (.aload_n 1, 1) := by decide +kernel
theorem d_Bas_execute_184 : decode b_Bas_execute 184 = .ok (.invokevirtual 68, 3) := by decide +kernel
theorem d_Bas_execute_187 : decode b_Bas_execute 187 = .ok (.ireturn, 1) := by decide +kernel
theorem d_Bas_execute_188 : decode b_Bas_execute 188 = .ok (.aload_n 0, 1) := by decide +kernel
theorem d_Bas_execute_189 : decode b_Bas_execute 189 = .ok (.aload_n 1, 1) := by decide +kernel
theorem d_Bas_execute_190 : decode b_Bas_execute 190 = .ok (.invokevirtual 71, 3) := by decide +kernel
theorem d_Bas_execute_193 : decode b_Bas_execute 193 = .ok (.ireturn, 1) := by decide +kernel
theorem d_Bas_execute_194 : decode b_Bas_execute 194 = .ok (.aload_n 0, 1) := by decide +kernel
theorem d_Bas_execute_195 : decode b_Bas_execute 195 = .ok (.getfield 18, 3) := by decide +kernel
theorem d_Bas_execute_198 : decode b_Bas_execute 198 = .ok (.aload_n 1, 1) := by decide +kernel
theorem d_Bas_execute_199 : decode b_Bas_execute 199 = .ok (.invokevirtual 35, 3) := by decide +kernel
theorem d_Bas_execute_202 : decode b_Bas_execute 202 = .ok (.ireturn, 1) := by decide +kernel
theorem d_Bas_load_0 : decode b_Bas_load 0 = .ok (.aload_n 1, 1) := by decide +kernel
theorem d_Bas_load_1 : decode b_Bas_load 1 = .ok (.getfield 32, 3) := by decide +kernel
theorem d_Bas_load_4 : decode b_Bas_load 4 = .ok (.iconst 5, 1) := by decide +kernel
theorem d_Bas_load_5 : decode b_Bas_load 5 = .ok (.if_icmp .le 12, 3) := by decide +kernel
theorem d_Bas_load_8 : decode b_Bas_load 8 = .ok (.aload_n 0, 1) := by decide +kernel
theorem d_Bas_load_9 : decode b_Bas_load 9 = .ok (.getfield 18, 3) := by decide +kernel
theorem d_Bas_load_12 : decode b_Bas_load 12 = .ok (.aload_n 1, 1) := by decide +kernel
theorem d_Bas_load_13 : decode b_Bas_load 13 = .ok (.invokevirtual 35, 3) := by decide +kernel
theorem d_Bas_load_16 : decode b_Bas_load 16 = .ok (.ireturn, 1) := by decide +kernel
theorem d_Bas_load_17 : decode b_Bas_load 17 = .ok (.iconst 1, 1) := by decide +kernel
theorem d_Bas_load_18 : decode b_Bas_load 18 = .ok (.aload_n 1, 1) := by decide +kernel
theorem d_Bas_load_19 : decode b_Bas_load 19 = .ok (.getfield 32, 3) := by decide +kernel
theorem d_Bas_load_22 : decode b_Bas_load 22 = .ok (.iconst 3, 1) := by decide +kernel
theorem d_Bas_load_23 : decode b_Bas_load 23 = .ok (.iand, 1) := by decide +kernel
theorem d_Bas_load_24 : decode b_Bas_load 24 = .ok (.ishl, 1) := by decide +kernel
theorem d_Bas_load_25 : decode b_Bas_load 25 = .ok (.istore_n 2, 1) := by decide +kernel
theorem d_Bas_load_26 : decode b_Bas_load 26 = .ok (.aload_n 0, 1) := by decide +kernel
theorem d_Bas_load_27 : decode b_Bas_load 27 = .ok (.getfield 18, 3) := by decide +kernel
theorem d_Bas_load_30 : decode b_Bas_load 30 = .ok (.getfield 98, 3) := by decide +kernel
theorem d_Bas_load_33 : decode b_Bas_load 33 = .ok (.aload_n 1, 1) := by decide +kernel
theorem d_Bas_load_34 : decode b_Bas_load 34 = .ok (.getfield 105, 3) := by decide +kernel
theorem d_Bas_load_37 : decode b_Bas_load 37 = .ok (.aaload, 1) := by decide +kernel
theorem d_Bas_load_38 : decode b_Bas_load 38 = .ok (.getfield 84, 3) := by decide +kernel
theorem d_Bas_load_41 : decode b_Bas_load 41 = .ok (.aload_n 1, 1) := by decide +kernel
theorem d_Bas_load_42 : decode b_Bas_load 42 = .ok (.getfield 55, 3) := by decide +kernel
theorem d_Bas_load_45 : decode b_Bas_load 45 = .ok (.iadd, 1) := by decide +kernel
theorem d_Bas_load_46 : decode b_Bas_load 46 = .ok (.istore_n 3, 1) := by decide +kernel
theorem d_Bas_load_47 : decode b_Bas_load 47 = .ok (.aload_n 0, 1) := by decide +kernel
theorem d_Bas_load_48 : decode b_Bas_load 48 = .ok (.getfield 18, 3) := by decide +kernel
theorem d_Bas_load_51 : decode b_Bas_load 51 = .ok (.aload_n 1, 1) := by decide +kernel
theorem d_Bas_load_52 : decode b_Bas_load 52 = .ok (.getfield 105, 3) := by decide +kernel
theorem d_Bas_load_55 : decode b_Bas_load 55 = .ok (.iconst 2, 1) := by decide +kernel
theorem d_Bas_load_56 : decode b_Bas_load 56 = .ok (.bipush 18, 2) := by decide +kernel
theorem d_Bas_load_58 : decode b_Bas_load 58 = .ok (.invokevirtual 158, 3) := by decide +kernel
theorem d_Bas_load_61 : decode b_Bas_load 61 = .ok (.istore 4, 2) := by decide +kernel
theorem d_Bas_load_63 : decode b_Bas_load 63 = .ok (.iload 4, 2) := by decide +kernel
theorem d_Bas_load_65 : decode b_Bas_load 65 = .ok (.iconst (-1), 1) := by decide +kernel
theorem d_Bas_load_66 : decode b_Bas_load 66 = .ok (.if_icmp .ne 19, 3) := by decide +kernel
theorem d_Bas_load_69 : decode b_Bas_load 69 = .ok (.aload_n 0, 1) := by decide +kernel
theorem d_Bas_load_70 : decode b_Bas_load 70 = .ok (.getfield 18, 3) := by decide +kernel
theorem d_Bas_load_73 : decode b_Bas_load 73 = .ok (.aload_n 1, 1) := by decide +kernel
theorem d_Bas_load_74 : decode b_Bas_load 74 = .ok (.getfield 105, 3) := by decide +kernel
theorem d_Bas_load_77 : decode b_Bas_load 77 = .ok (.iload_n 3, 1) := by decide +kernel
theorem d_Bas_load_78 : decode b_Bas_load 78 = .ok (.iload_n 2, 1) := by decide +kernel
theorem d_Bas_load_79 : decode b_Bas_load 79 = .ok (.iconst 4, 1) := by decide +kernel
theorem d_Bas_load_80 : decode b_Bas_load 80 = .ok (.invokevirtual 162, 3) := by decide +kernel
theorem d_Bas_load_83 : decode b_Bas_load 83 = .ok (.istore 4, 2) := by decide +kernel
theorem d_Bas_load_85 : decode b_Bas_load 85 = .ok (.iload 4, 2) := by decide +kernel
theorem d_Bas_load_87 : decode b_Bas_load 87 = .ok (.iconst (-1), 1) := by decide +kernel
theorem d_Bas_load_88 : decode b_Bas_load 88 = .ok (.if_icmp .eq 6, 3) := by decide +kernel
theorem d_Bas_load_91 : decode b_Bas_load 91 = .ok (.iload 4, 2) := by decide +kernel
theorem d_Bas_load_93 : decode b_Bas_load 93 = .ok (.ireturn, 1) := by decide +kernel
theorem d_Bas_load_94 : decode b_Bas_load 94 = .ok (.iload_n 2, 1) := by decide +kernel
theorem d_Bas_load_95 : decode b_Bas_load 95 = .ok (.bipush 8, 2) := by decide +kernel
theorem d_Bas_load_97 : decode b_Bas_load 97 = .ok (.if_icmp .ne 14, 3) := by decide +kernel
theorem d_Bas_load_100 : decode b_Bas_load 100 = .ok (.aload_n 0, 1) := by decide +kernel
theorem d_Bas_load_101 : decode b_Bas_load 101 = .ok (.aload_n 1, 1) := by decide +kernel
theorem d_Bas_load_102 : decode b_Bas_load 102 = .ok (.iload_n 3, 1) := by decide +kernel
theorem d_Bas_load_103 : decode b_Bas_load 103 = .ok (.iconst 2, 1) := by decide +kernel
theorem d_Bas_load_104 : decode b_Bas_load 104 = .ok (.iushr, 1) := by decide +kernel
theorem d_Bas_load_105 : decode b_Bas_load 105 = .ok (.invokevirtual 166, 3) := by decide +kernel
theorem d_Bas_load_108 : decode b_Bas_load 108 = .ok (.goto 23, 3) := by decide +kernel
theorem d_Bas_load_111 : decode b_Bas_load 111 = .ok (.aload_n 0, 1) := by decide +kernel
theorem d_Bas_load_112 : decode b_Bas_load 112 = .ok (.getfield 18, 3) := by decide +kernel
theorem d_Bas_load_115 : decode b_Bas_load 115 = .ok (.aload_n 1, 1) := by decide +kernel
theorem d_Bas_load_116 : decode b_Bas_load 116 = .ok (.getfield 52, 3) := by decide +kernel
theorem d_Bas_load_119 : decode b_Bas_load 119 = .ok (.aload_n 0, 1) := by decide +kernel
theorem d_Bas_load_120 : decode b_Bas_load 120 = .ok (.aload_n 1, 1) := by decide +kernel
theorem d_Bas_load_121 : decode b_Bas_load 121 = .ok (.getfield 32, 3) := by decide +kernel
theorem d_Bas_load_124 : decode b_Bas_load 124 = .ok (.iload_n 3, 1) := by decide +kernel
theorem d_Bas_load_125 : decode b_Bas_load 125 = .ok (.invokevirtual 170, 3) := by decide +kernel
theorem d_Bas_load_128 : decode b_Bas_load 128 = .ok (.invokevirtual 58, 3) := by decide +kernel
theorem d_Bas_load_131 : decode b_Bas_load 131 = .ok (.ireturn, 1) := by decide +kernel
theorem d_Bas_loadCapability_0 : decode b_Bas_loadCapability 0 = .ok (.aload_n 0, 1) := by decide +kernel
theorem d_Bas_loadCapability_1 : decode b_Bas_loadCapability 1 = .ok (.getfield 18, 3) := by decide +kernel
theorem d_Bas_loadCapability_4 : decode b_Bas_loadCapability 4 = .ok (.getfield 98, 3) := by decide +kernel
theorem d_Bas_loadCapability_7 : decode b_Bas_loadCapability 7 = .ok (.aload_n 1, 1) := by decide +kernel
theorem d_Bas_loadCapability_8 : decode b_Bas_loadCapability 8 = .ok (.getfield 105, 3) := by decide +kernel
theorem d_Bas_loadCapability_11 : decode b_Bas_loadCapability 11 = .ok (.aaload, 1) := by decide +kernel
theorem d_Bas_loadCapability_12 : decode b_Bas_loadCapability 12 = .ok (.iconst 4, 1) := by decide +kernel
theorem d_Bas_loadCapability_13 : decode b_Bas_loadCapability 13 = .ok (.invokevirtual 154, 3) := by decide +kernel
theorem d_Bas_loadCapability_16 : decode b_Bas_loadCapability 16 = .ok (.ifCond .eq 21, 3) := by decide +kernel
theorem d_Bas_loadCapability_19 : decode b_Bas_loadCapability 19 = .ok (.aload_n 0, 1) := by decide +kernel
theorem d_Bas_loadCapability_20 : decode b_Bas_loadCapability 20 = .ok (.getfield 18, 3) := by decide +kernel
theorem d_Bas_loadCapability_23 : decode b_Bas_loadCapability 23 = .ok (.getfield 173, 3) := by decide +kernel
theorem d_Bas_loadCapability_26 : decode b_Bas_loadCapability 26 = .ok (.iload_n 2, 1) := by decide +kernel
theorem d_Bas_loadCapability_27 : decode b_Bas_loadCapability 27 = .ok (.invokevirtual 183, 3) := by decide +kernel
theorem d_Bas_loadCapability_30 : decode b_Bas_loadCapability 30 = .ok (.ifCond .eq 7, 3) := by decide +kernel
theorem d_Bas_loadCapability_33 : decode b_Bas_loadCapability 33 = .ok (.iconst 1, 1) := by decide +kernel
theorem d_Bas_loadCapability_34 : decode b_Bas_loadCapability 34 = .ok (.goto 4, 3) := by decide +kernel
theorem d_Bas_loadCapability_37 : decode b_Bas_loadCapability 37 = .ok (.iconst 0, 1) := by decide +kernel
theorem d_Bas_loadCapability_38 : decode b_Bas_loadCapability 38 = .ok (.istore_n 3, 1) := by decide +kernel
theorem d_Bas_loadCapability_39 : decode b_Bas_loadCapability 39 = .ok (.aload_n 0, 1) := by decide +kernel
theorem d_Bas_loadCapability_40 : decode b_Bas_loadCapability 40 = .ok (.getfield 18, 3) := by decide +kernel
theorem d_Bas_loadCapability_43 : decode b_Bas_loadCapability 43 = .ok (.getfield 173, 3) := by decide +kernel
theorem d_Bas_loadCapability_46 : decode b_Bas_loadCapability 46 = .ok (.iload_n 2, 1) := by decide +kernel
theorem d_Bas_loadCapability_47 : decode b_Bas_loadCapability 47 = .ok (.invokevirtual 177, 3) := by decide +kernel
theorem d_Bas_loadCapability_50 : decode b_Bas_loadCapability 50 = .ok (.istore 4, 2) := by decide +kernel
theorem d_Bas_loadCapability_52 : decode b_Bas_loadCapability 52 = .ok (.aload_n 0, 1) := by decide +kernel
theorem d_Bas_loadCapability_53 : decode b_Bas_loadCapability 53 = .ok (.getfield 18, 3) := by decide +kernel
theorem d_Bas_loadCapability_56 : decode b_Bas_loadCapability 56 = .ok (.getfield 74, 3) := by decide +kernel
theorem d_Bas_loadCapability_59 : decode b_Bas_loadCapability 59 = .ok (.iload_n 3, 1) := by decide +kernel
theorem d_Bas_loadCapability_60 : decode b_Bas_loadCapability 60 = .ok (.iload 4, 2) := by decide +kernel
theorem d_Bas_loadCapability_62 : decode b_Bas_loadCapability 62 = .ok (.aload_n 0, 1) := by decide +kernel
theorem d_Bas_loadCapability_63 : decode b_Bas_loadCapability 63 = .ok (.getfield 18, 3) := by decide +kernel
theorem d_Bas_loadCapability_66 : decode b_Bas_loadCapability 66 = .ok (.getfield 173, 3) := by decide +kernel
theorem d_Bas_loadCapability_69 : decode b_Bas_loadCapability 69 = .ok (.iload_n 2, 1) := by decide +kernel
theorem d_Bas_loadCapability_70 : decode b_Bas_loadCapability 70 = .ok (.iconst 1, 1) := by decide +kernel
theorem d_Bas_loadCapability_71 : decode b_Bas_loadCapability 71 = .ok (.iadd, 1) := by decide +kernel
theorem d_Bas_loadCapability_72 : decode b_Bas_loadCapability 72 = .ok (.invokevirtual 177, 3) := by decide +kernel
theorem d_Bas_loadCapability_75 : decode b_Bas_loadCapability 75 = .ok (.ldc 186, 2) := by decide +kernel
theorem d_Bas_loadCapability_77 : decode b_Bas_loadCapability 77 = .ok (.ixor, 1) := by decide +kernel
theorem d_Bas_loadCapability_78 : decode b_Bas_loadCapability 78 = .ok (.invokevirtual 187, 3) := by decide +kernel
theorem d_Bas_loadCapability_81 : decode b_Bas_loadCapability 81 = .ok (.aload_n 0, 1) := by decide +kernel
theorem d_Bas_loadCapability_82 : decode b_Bas_loadCapability 82 = .ok (.getfield 18, 3) := by decide +kernel
theorem d_Bas_loadCapability_85 : decode b_Bas_loadCapability 85 = .ok (.aload_n 1, 1) := by decide +kernel
theorem d_Bas_loadCapability_86 : decode b_Bas_loadCapability 86 = .ok (.getfield 52, 3) := by decide +kernel
theorem d_Bas_loadCapability_89 : decode b_Bas_loadCapability 89 = .ok (.invokevirtual 91, 3) := by decide +kernel
theorem d_Bas_loadCapability_92 : decode b_Bas_loadCapability 92 = .ok (.ireturn, 1) := by decide +kernel
theorem d_Bas_loaded_0 : decode b_Bas_loaded 0 = .ok (.aload_n 0, 1) := by decide +kernel
theorem d_Bas_loaded_1 : decode b_Bas_loaded 1 = .ok (.getfield 18, 3) := by decide +kernel
theorem d_Bas_loaded_4 : decode b_Bas_loaded 4 = .ok (.getfield 173, 3) := by decide +kernel
theorem d_Bas_loaded_7 : decode b_Bas_loaded 7 = .ok (.iload_n 2, 1) := by decide +kernel
theorem d_Bas_loaded_8 : decode b_Bas_loaded 8 = .ok (.iconst 2, 1) := by decide +kernel
theorem d_Bas_loaded_9 : decode b_Bas_loaded 9 = .ok (.iushr, 1) := by decide +kernel
theorem d_Bas_loaded_10 : decode b_Bas_loaded 10 = .ok (.invokevirtual 177, 3) := by decide +kernel
theorem d_Bas_loaded_13 : decode b_Bas_loaded 13 = .ok (.bipush 8, 2) := by decide +kernel
theorem d_Bas_loaded_15 : decode b_Bas_loaded 15 = .ok (.iload_n 2, 1) := by decide +kernel
theorem d_Bas_loaded_16 : decode b_Bas_loaded 16 = .ok (.iconst 3, 1) := by decide +kernel
theorem d_Bas_loaded_17 : decode b_Bas_loaded 17 = .ok (.iand, 1) := by decide +kernel
theorem d_Bas_loaded_18 : decode b_Bas_loaded 18 = .ok (.imul, 1) := by decide +kernel
theorem d_Bas_loaded_19 : decode b_Bas_loaded 19 = .ok (.iushr, 1) := by decide +kernel
theorem d_Bas_loaded_20 : decode b_Bas_loaded 20 = .ok (.istore_n 3, 1) := by decide +kernel
theorem d_Bas_loaded_21 : decode b_Bas_loaded 21 = .ok (.iload_n 1, 1) := by decide +kernel
theorem d_Bas_loaded_22 : decode b_Bas_loaded 22 = .ok (.tableswitch 55 0 5 #[38, 41, 55, 55, 44, 50], 38) := by decide +kernel
theorem d_Bas_loaded_60 : decode b_Bas_loaded 60 = .ok (.iload_n 3, 1) := by decide +kernel
theorem d_Bas_loaded_61 : decode b_Bas_loaded 61 = .ok (.i2b, 1) := by decide +kernel
theorem d_Bas_loaded_62 : decode b_Bas_loaded 62 = .ok (.ireturn, 1) := by decide +kernel
theorem d_Bas_loaded_63 : decode b_Bas_loaded 63 = .ok (.iload_n 3, 1) := by decide +kernel
theorem d_Bas_loaded_64 : decode b_Bas_loaded 64 = .ok (.i2s, 1) := by decide +kernel
theorem d_Bas_loaded_65 : decode b_Bas_loaded 65 = .ok (.ireturn, 1) := by decide +kernel
theorem d_Bas_loaded_66 : decode b_Bas_loaded 66 = .ok (.iload_n 3, 1) := by decide +kernel
theorem d_Bas_loaded_67 : decode b_Bas_loaded 67 = .ok (.sipush 255, 3) := by decide +kernel
theorem d_Bas_loaded_70 : decode b_Bas_loaded 70 = .ok (.iand, 1) := by decide +kernel
theorem d_Bas_loaded_71 : decode b_Bas_loaded 71 = .ok (.ireturn, 1) := by decide +kernel
theorem d_Bas_loaded_72 : decode b_Bas_loaded 72 = .ok (.iload_n 3, 1) := by decide +kernel
theorem d_Bas_loaded_73 : decode b_Bas_loaded 73 = .ok (.ldc 182, 2) := by decide +kernel
theorem d_Bas_loaded_75 : decode b_Bas_loaded 75 = .ok (.iand, 1) := by decide +kernel
theorem d_Bas_loaded_76 : decode b_Bas_loaded 76 = .ok (.ireturn, 1) := by decide +kernel
theorem d_Bas_loaded_77 : decode b_Bas_loaded 77 = .ok (.iload_n 3, 1) := by decide +kernel
theorem d_Bas_loaded_78 : decode b_Bas_loaded 78 = .ok (.ireturn, 1) := by decide +kernel
theorem d_Bas_operateImmediate_0 : decode b_Bas_operateImmediate 0 = .ok (.aload_n 1, 1) := by decide +kernel
theorem d_Bas_operateImmediate_1 : decode b_Bas_operateImmediate 1 = .ok (.getfield 32, 3) := by decide +kernel
theorem d_Bas_operateImmediate_4 : decode b_Bas_operateImmediate 4 = .ok (.iconst 1, 1) := by decide +kernel
theorem d_Bas_operateImmediate_5 : decode b_Bas_operateImmediate 5 = .ok (.if_icmp .eq 11, 3) := by decide +kernel
theorem d_Bas_operateImmediate_8 : decode b_Bas_operateImmediate 8 = .ok (.aload_n 1, 1) := by decide +kernel
theorem d_Bas_operateImmediate_9 : decode b_Bas_operateImmediate 9 = .ok (.getfield 32, 3) := by decide +kernel
theorem d_Bas_operateImmediate_12 : decode b_Bas_operateImmediate 12 = .ok (.iconst 5, 1) := by decide +kernel
theorem d_Bas_operateImmediate_13 : decode b_Bas_operateImmediate 13 = .ok (.if_icmp .ne 7, 3) := by decide +kernel
theorem d_Bas_operateImmediate_16 : decode b_Bas_operateImmediate 16 = .ok (.iconst 1, 1) := by decide +kernel
theorem d_Bas_operateImmediate_17 : decode b_Bas_operateImmediate 17 = .ok (.goto 4, 3) := by decide +kernel
theorem d_Bas_operateImmediate_20 : decode b_Bas_operateImmediate 20 = .ok (.iconst 0, 1) := by decide +kernel
theorem d_Bas_operateImmediate_21 : decode b_Bas_operateImmediate 21 = .ok (.istore_n 2, 1) := by decide +kernel
theorem d_Bas_operateImmediate_22 : decode b_Bas_operateImmediate 22 = .ok (.aload_n 1, 1) := by decide +kernel
theorem d_Bas_operateImmediate_23 : decode b_Bas_operateImmediate 23 = .ok (.getfield 95, 3) := by decide +kernel
theorem d_Bas_operateImmediate_26 : decode b_Bas_operateImmediate 26 = .ok (.bipush 32, 2) := by decide +kernel
theorem d_Bas_operateImmediate_28 : decode b_Bas_operateImmediate 28 = .ok (.if_icmp .ne 15, 3) := by decide +kernel
theorem d_Bas_operateImmediate_31 : decode b_Bas_operateImmediate 31 = .ok (.aload_n 1, 1) := by decide +kernel
theorem d_Bas_operateImmediate_32 : decode b_Bas_operateImmediate 32 = .ok (.getfield 32, 3) := by decide +kernel
theorem d_Bas_operateImmediate_35 : decode b_Bas_operateImmediate 35 = .ok (.iconst 5, 1) := by decide +kernel
theorem d_Bas_operateImmediate_36 : decode b_Bas_operateImmediate 36 = .ok (.if_icmp .ne 7, 3) := by decide +kernel
theorem d_Bas_operateImmediate_39 : decode b_Bas_operateImmediate 39 = .ok (.iconst 1, 1) := by decide +kernel
theorem d_Bas_operateImmediate_40 : decode b_Bas_operateImmediate 40 = .ok (.goto 4, 3) := by decide +kernel
theorem d_Bas_operateImmediate_43 : decode b_Bas_operateImmediate 43 = .ok (.iconst 0, 1) := by decide +kernel
theorem d_Bas_operateImmediate_44 : decode b_Bas_operateImmediate 44 = .ok (.istore_n 3, 1) := by decide +kernel
theorem d_Bas_operateImmediate_45 : decode b_Bas_operateImmediate 45 = .ok (.iload_n 2, 1) := by decide +kernel
theorem d_Bas_operateImmediate_46 : decode b_Bas_operateImmediate 46 = .ok (.ifCond .eq 23, 3) := by decide +kernel
theorem d_Bas_operateImmediate_49 : decode b_Bas_operateImmediate 49 = .ok (.aload_n 1, 1) := by decide +kernel
theorem d_Bas_operateImmediate_50 : decode b_Bas_operateImmediate 50 = .ok (.getfield 95, 3) := by decide +kernel
theorem d_Bas_operateImmediate_53 : decode b_Bas_operateImmediate 53 = .ok (.ifCond .eq 16, 3) := by decide +kernel
theorem d_Bas_operateImmediate_56 : decode b_Bas_operateImmediate 56 = .ok (.iload_n 3, 1) := by decide +kernel
theorem d_Bas_operateImmediate_57 : decode b_Bas_operateImmediate 57 = .ok (.ifCond .ne 12, 3) := by decide +kernel
theorem d_Bas_operateImmediate_60 : decode b_Bas_operateImmediate 60 = .ok (.aload_n 0, 1) := by decide +kernel
theorem d_Bas_operateImmediate_61 : decode b_Bas_operateImmediate 61 = .ok (.getfield 18, 3) := by decide +kernel
theorem d_Bas_operateImmediate_64 : decode b_Bas_operateImmediate 64 = .ok (.aload_n 1, 1) := by decide +kernel
theorem d_Bas_operateImmediate_65 : decode b_Bas_operateImmediate 65 = .ok (.invokevirtual 35, 3) := by decide +kernel
theorem d_Bas_operateImmediate_68 : decode b_Bas_operateImmediate 68 = .ok (.ireturn, 1) := by decide +kernel
theorem d_Bas_operateImmediate_69 : decode b_Bas_operateImmediate 69 = .ok (.aload_n 1, 1) := by decide +kernel
theorem d_Bas_operateImmediate_70 : decode b_Bas_operateImmediate 70 = .ok (.getfield 55, 3) := by decide +kernel
theorem d_Bas_operateImmediate_73 : decode b_Bas_operateImmediate 73 = .ok (.istore 4, 2) := by decide +kernel
theorem d_Bas_operateImmediate_75 : decode b_Bas_operateImmediate 75 = .ok (.aload_n 0, 1) := by decide +kernel
theorem d_Bas_operateImmediate_76 : decode b_Bas_operateImmediate 76 = .ok (.getfield 18, 3) := by decide +kernel
theorem d_Bas_operateImmediate_79 : decode b_Bas_operateImmediate 79 = .ok (.aload_n 1, 1) := by decide +kernel
theorem d_Bas_operateImmediate_80 : decode b_Bas_operateImmediate 80 = .ok (.getfield 52, 3) := by decide +kernel
theorem d_Bas_operateImmediate_83 : decode b_Bas_operateImmediate 83 = .ok (.aload_n 1, 1) := by decide +kernel
theorem d_Bas_operateImmediate_84 : decode b_Bas_operateImmediate 84 = .ok (.getfield 32, 3) := by decide +kernel
theorem d_Bas_operateImmediate_87 : decode b_Bas_operateImmediate 87 = .ok (.iload_n 3, 1) := by decide +kernel
theorem d_Bas_operateImmediate_88 : decode b_Bas_operateImmediate 88 = .ok (.aload_n 0, 1) := by decide +kernel
theorem d_Bas_operateImmediate_89 : decode b_Bas_operateImmediate 89 = .ok (.getfield 18, 3) := by decide +kernel
theorem d_Bas_operateImmediate_92 : decode b_Bas_operateImmediate 92 = .ok (.getfield 98, 3) := by decide +kernel
theorem d_Bas_operateImmediate_95 : decode b_Bas_operateImmediate 95 = .ok (.aload_n 1, 1) := by decide +kernel
theorem d_Bas_operateImmediate_96 : decode b_Bas_operateImmediate 96 = .ok (.getfield 105, 3) := by decide +kernel
theorem d_Bas_operateImmediate_99 : decode b_Bas_operateImmediate 99 = .ok (.aaload, 1) := by decide +kernel
theorem d_Bas_operateImmediate_100 : decode b_Bas_operateImmediate 100 = .ok (.getfield 84, 3) := by decide +kernel
theorem d_Bas_operateImmediate_103 : decode b_Bas_operateImmediate 103 = .ok (.iload 4, 2) := by decide +kernel
theorem d_Bas_operateImmediate_105 : decode b_Bas_operateImmediate 105 = .ok (.invokestatic 108, 3) := by decide +kernel
theorem d_Bas_operateImmediate_108 : decode b_Bas_operateImmediate 108 = .ok (.invokevirtual 58, 3) := by decide +kernel
theorem d_Bas_operateImmediate_111 : decode b_Bas_operateImmediate 111 = .ok (.ireturn, 1) := by decide +kernel
theorem d_Bas_computed_0 : decode b_Bas_computed 0 = .ok (.iload_n 0, 1) := by decide +kernel
theorem d_Bas_computed_1 : decode b_Bas_computed 1 = .ok (.tableswitch 117 0 6 #[43, 57, 64, 75, 89, 93, 113], 43) := by decide +kernel
theorem d_Bas_computed_44 : decode b_Bas_computed 44 = .ok (.iload_n 1, 1) := by decide +kernel
theorem d_Bas_computed_45 : decode b_Bas_computed 45 = .ok (.ifCond .eq 9, 3) := by decide +kernel
theorem d_Bas_computed_48 : decode b_Bas_computed 48 = .ok (.iload_n 2, 1) := by decide +kernel
theorem d_Bas_computed_49 : decode b_Bas_computed 49 = .ok (.iload_n 3, 1) := by decide +kernel
theorem d_Bas_computed_50 : decode b_Bas_computed 50 = .ok (.isub, 1) := by decide +kernel
theorem d_Bas_computed_51 : decode b_Bas_computed 51 = .ok (.goto 6, 3) := by decide +kernel
theorem d_Bas_computed_54 : decode b_Bas_computed 54 = .ok (.iload_n 2, 1) := by decide +kernel
theorem d_Bas_computed_55 : decode b_Bas_computed 55 = .ok (.iload_n 3, 1) := by decide +kernel
theorem d_Bas_computed_56 : decode b_Bas_computed 56 = .ok (.iadd, 1) := by decide +kernel
theorem d_Bas_computed_57 : decode b_Bas_computed 57 = .ok (.ireturn, 1) := by decide +kernel
theorem d_Bas_computed_58 : decode b_Bas_computed 58 = .ok (.iload_n 2, 1) := by decide +kernel
theorem d_Bas_computed_59 : decode b_Bas_computed 59 = .ok (.iload_n 3, 1) := by decide +kernel
theorem d_Bas_computed_60 : decode b_Bas_computed 60 = .ok (.bipush 31, 2) := by decide +kernel
theorem d_Bas_computed_62 : decode b_Bas_computed 62 = .ok (.iand, 1) := by decide +kernel
theorem d_Bas_computed_63 : decode b_Bas_computed 63 = .ok (.ishl, 1) := by decide +kernel
theorem d_Bas_computed_64 : decode b_Bas_computed 64 = .ok (.ireturn, 1) := by decide +kernel
theorem d_Bas_computed_65 : decode b_Bas_computed 65 = .ok (.iload_n 2, 1) := by decide +kernel
theorem d_Bas_computed_66 : decode b_Bas_computed 66 = .ok (.iload_n 3, 1) := by decide +kernel
theorem d_Bas_computed_67 : decode b_Bas_computed 67 = .ok (.if_icmp .ge 7, 3) := by decide +kernel
theorem d_Bas_computed_70 : decode b_Bas_computed 70 = .ok (.iconst 1, 1) := by decide +kernel
theorem d_Bas_computed_71 : decode b_Bas_computed 71 = .ok (.goto 4, 3) := by decide +kernel
theorem d_Bas_computed_74 : decode b_Bas_computed 74 = .ok (.iconst 0, 1) := by decide +kernel
theorem d_Bas_computed_75 : decode b_Bas_computed 75 = .ok (.ireturn, 1) := by decide +kernel
theorem d_Bas_computed_76 : decode b_Bas_computed 76 = .ok (.iload_n 2, 1) := by decide +kernel
theorem d_Bas_computed_77 : decode b_Bas_computed 77 = .ok (.iload_n 3, 1) := by decide +kernel
theorem d_Bas_computed_78 : decode b_Bas_computed 78 = .ok (.invokestatic 112, 3) := by decide +kernel
theorem d_Bas_computed_81 : decode b_Bas_computed 81 = .ok (.ifCond .ge 7, 3) := by decide +kernel
theorem d_Bas_computed_84 : decode b_Bas_computed 84 = .ok (.iconst 1, 1) := by decide +kernel
theorem d_Bas_computed_85 : decode b_Bas_computed 85 = .ok (.goto 4, 3) := by decide +kernel
theorem d_Bas_computed_88 : decode b_Bas_computed 88 = .ok (.iconst 0, 1) := by decide +kernel
theorem d_Bas_computed_89 : decode b_Bas_computed 89 = .ok (.ireturn, 1) := by decide +kernel
theorem d_Bas_computed_90 : decode b_Bas_computed 90 = .ok (.iload_n 2, 1) := by decide +kernel
theorem d_Bas_computed_91 : decode b_Bas_computed 91 = .ok (.iload_n 3, 1) := by decide +kernel
theorem d_Bas_computed_92 : decode b_Bas_computed 92 = .ok (.ixor, 1) := by decide +kernel
theorem d_Bas_computed_93 : decode b_Bas_computed 93 = .ok (.ireturn, 1) := by decide +kernel
theorem d_Bas_computed_94 : decode b_Bas_computed 94 = .ok (.iload_n 1, 1) := by decide +kernel
theorem d_Bas_computed_95 : decode b_Bas_computed 95 = .ok (.ifCond .eq 12, 3) := by decide +kernel
theorem d_Bas_computed_98 : decode b_Bas_computed 98 = .ok (.iload_n 2, 1) := by decide +kernel
theorem d_Bas_computed_99 : decode b_Bas_computed 99 = .ok (.iload_n 3, 1) := by decide +kernel
theorem d_Bas_computed_100 : decode b_Bas_computed 100 = .ok (.bipush 31, 2) := by decide +kernel
theorem d_Bas_computed_102 : decode b_Bas_computed 102 = .ok (.iand, 1) := by decide +kernel
theorem d_Bas_computed_103 : decode b_Bas_computed 103 = .ok (.ishr, 1) := by decide +kernel
theorem d_Bas_computed_104 : decode b_Bas_computed 104 = .ok (.goto 9, 3) := by decide +kernel
theorem d_Bas_computed_107 : decode b_Bas_computed 107 = .ok (.iload_n 2, 1) := by decide +kernel
theorem d_Bas_computed_108 : decode b_Bas_computed 108 = .ok (.iload_n 3, 1) := by decide +kernel
theorem d_Bas_computed_109 : decode b_Bas_computed 109 = .ok (.bipush 31, 2) := by decide +kernel
theorem d_Bas_computed_111 : decode b_Bas_computed 111 = .ok (.iand, 1) := by decide +kernel
theorem d_Bas_computed_112 : decode b_Bas_computed 112 = .ok (.iushr, 1) := by decide +kernel
theorem d_Bas_computed_113 : decode b_Bas_computed 113 = .ok (.ireturn, 1) := by decide +kernel
theorem d_Bas_computed_114 : decode b_Bas_computed 114 = .ok (.iload_n 2, 1) := by decide +kernel
theorem d_Bas_computed_115 : decode b_Bas_computed 115 = .ok (.iload_n 3, 1) := by decide +kernel
theorem d_Bas_computed_116 : decode b_Bas_computed 116 = .ok (.ior, 1) := by decide +kernel
theorem d_Bas_computed_117 : decode b_Bas_computed 117 = .ok (.ireturn, 1) := by decide +kernel
theorem d_Bas_computed_118 : decode b_Bas_computed 118 = .ok (.iload_n 2, 1) := by decide +kernel
theorem d_Bas_computed_119 : decode b_Bas_computed 119 = .ok (.iload_n 3, 1) := by decide +kernel
theorem d_Bas_computed_120 : decode b_Bas_computed 120 = .ok (.iand, 1) := by decide +kernel
theorem d_Bas_computed_121 : decode b_Bas_computed 121 = .ok (.ireturn, 1) := by decide +kernel
theorem d_Bas_addToPcc_0 : decode b_Bas_addToPcc 0 = .ok (.aload_n 0, 1) := by decide +kernel
theorem d_Bas_addToPcc_1 : decode b_Bas_addToPcc 1 = .ok (.getfield 18, 3) := by decide +kernel
theorem d_Bas_addToPcc_4 : decode b_Bas_addToPcc 4 = .ok (.getfield 74, 3) := by decide +kernel
theorem d_Bas_addToPcc_7 : decode b_Bas_addToPcc 7 = .ok (.aload_n 0, 1) := by decide +kernel
theorem d_Bas_addToPcc_8 : decode b_Bas_addToPcc 8 = .ok (.getfield 18, 3) := by decide +kernel
theorem d_Bas_addToPcc_11 : decode b_Bas_addToPcc 11 = .ok (.getfield 77, 3) := by decide +kernel
theorem d_Bas_addToPcc_14 : decode b_Bas_addToPcc 14 = .ok (.invokevirtual 80, 3) := by decide +kernel
theorem d_Bas_addToPcc_17 : decode b_Bas_addToPcc 17 = .ok (.aload_n 0, 1) := by decide +kernel
theorem d_Bas_addToPcc_18 : decode b_Bas_addToPcc 18 = .ok (.getfield 18, 3) := by decide +kernel
theorem d_Bas_addToPcc_21 : decode b_Bas_addToPcc 21 = .ok (.getfield 74, 3) := by decide +kernel
theorem d_Bas_addToPcc_24 : decode b_Bas_addToPcc 24 = .ok (.aload_n 0, 1) := by decide +kernel
theorem d_Bas_addToPcc_25 : decode b_Bas_addToPcc 25 = .ok (.getfield 18, 3) := by decide +kernel
theorem d_Bas_addToPcc_28 : decode b_Bas_addToPcc 28 = .ok (.getfield 77, 3) := by decide +kernel
theorem d_Bas_addToPcc_31 : decode b_Bas_addToPcc 31 = .ok (.getfield 84, 3) := by decide +kernel
theorem d_Bas_addToPcc_34 : decode b_Bas_addToPcc 34 = .ok (.aload_n 1, 1) := by decide +kernel
theorem d_Bas_addToPcc_35 : decode b_Bas_addToPcc 35 = .ok (.getfield 55, 3) := by decide +kernel
theorem d_Bas_addToPcc_38 : decode b_Bas_addToPcc 38 = .ok (.iadd, 1) := by decide +kernel
theorem d_Bas_addToPcc_39 : decode b_Bas_addToPcc 39 = .ok (.invokevirtual 87, 3) := by decide +kernel
theorem d_Bas_addToPcc_42 : decode b_Bas_addToPcc 42 = .ok (.aload_n 0, 1) := by decide +kernel
theorem d_Bas_addToPcc_43 : decode b_Bas_addToPcc 43 = .ok (.getfield 18, 3) := by decide +kernel
theorem d_Bas_addToPcc_46 : decode b_Bas_addToPcc 46 = .ok (.aload_n 1, 1) := by decide +kernel
theorem d_Bas_addToPcc_47 : decode b_Bas_addToPcc 47 = .ok (.getfield 52, 3) := by decide +kernel
theorem d_Bas_addToPcc_50 : decode b_Bas_addToPcc 50 = .ok (.invokevirtual 91, 3) := by decide +kernel
theorem d_Bas_addToPcc_53 : decode b_Bas_addToPcc 53 = .ok (.ireturn, 1) := by decide +kernel
theorem d_Bas_store_0 : decode b_Bas_store 0 = .ok (.aload_n 1, 1) := by decide +kernel
theorem d_Bas_store_1 : decode b_Bas_store 1 = .ok (.getfield 32, 3) := by decide +kernel
theorem d_Bas_store_4 : decode b_Bas_store 4 = .ok (.iconst 3, 1) := by decide +kernel
theorem d_Bas_store_5 : decode b_Bas_store 5 = .ok (.if_icmp .le 12, 3) := by decide +kernel
theorem d_Bas_store_8 : decode b_Bas_store 8 = .ok (.aload_n 0, 1) := by decide +kernel
theorem d_Bas_store_9 : decode b_Bas_store 9 = .ok (.getfield 18, 3) := by decide +kernel
theorem d_Bas_store_12 : decode b_Bas_store 12 = .ok (.aload_n 1, 1) := by decide +kernel
theorem d_Bas_store_13 : decode b_Bas_store 13 = .ok (.invokevirtual 35, 3) := by decide +kernel
theorem d_Bas_store_16 : decode b_Bas_store 16 = .ok (.ireturn, 1) := by decide +kernel
theorem d_Bas_store_17 : decode b_Bas_store 17 = .ok (.iconst 1, 1) := by decide +kernel
theorem d_Bas_store_18 : decode b_Bas_store 18 = .ok (.aload_n 1, 1) := by decide +kernel
theorem d_Bas_store_19 : decode b_Bas_store 19 = .ok (.getfield 32, 3) := by decide +kernel
theorem d_Bas_store_22 : decode b_Bas_store 22 = .ok (.ishl, 1) := by decide +kernel
theorem d_Bas_store_23 : decode b_Bas_store 23 = .ok (.istore_n 2, 1) := by decide +kernel
theorem d_Bas_store_24 : decode b_Bas_store 24 = .ok (.aload_n 0, 1) := by decide +kernel
theorem d_Bas_store_25 : decode b_Bas_store 25 = .ok (.getfield 18, 3) := by decide +kernel
theorem d_Bas_store_28 : decode b_Bas_store 28 = .ok (.getfield 98, 3) := by decide +kernel
theorem d_Bas_store_31 : decode b_Bas_store 31 = .ok (.aload_n 1, 1) := by decide +kernel
theorem d_Bas_store_32 : decode b_Bas_store 32 = .ok (.getfield 105, 3) := by decide +kernel
theorem d_Bas_store_35 : decode b_Bas_store 35 = .ok (.aaload, 1) := by decide +kernel
theorem d_Bas_store_36 : decode b_Bas_store 36 = .ok (.getfield 84, 3) := by decide +kernel
theorem d_Bas_store_39 : decode b_Bas_store 39 = .ok (.aload_n 1, 1) := by decide +kernel
theorem d_Bas_store_40 : decode b_Bas_store 40 = .ok (.getfield 55, 3) := by decide +kernel
theorem d_Bas_store_43 : decode b_Bas_store 43 = .ok (.iadd, 1) := by decide +kernel
theorem d_Bas_store_44 : decode b_Bas_store 44 = .ok (.istore_n 3, 1) := by decide +kernel
theorem d_Bas_store_45 : decode b_Bas_store 45 = .ok (.aload_n 0, 1) := by decide +kernel
theorem d_Bas_store_46 : decode b_Bas_store 46 = .ok (.getfield 18, 3) := by decide +kernel
theorem d_Bas_store_49 : decode b_Bas_store 49 = .ok (.aload_n 1, 1) := by decide +kernel
theorem d_Bas_store_50 : decode b_Bas_store 50 = .ok (.getfield 105, 3) := by decide +kernel
theorem d_Bas_store_53 : decode b_Bas_store 53 = .ok (.iconst 3, 1) := by decide +kernel
theorem d_Bas_store_54 : decode b_Bas_store 54 = .ok (.bipush 19, 2) := by decide +kernel
theorem d_Bas_store_56 : decode b_Bas_store 56 = .ok (.invokevirtual 158, 3) := by decide +kernel
theorem d_Bas_store_59 : decode b_Bas_store 59 = .ok (.istore 4, 2) := by decide +kernel
theorem d_Bas_store_61 : decode b_Bas_store 61 = .ok (.iload 4, 2) := by decide +kernel
theorem d_Bas_store_63 : decode b_Bas_store 63 = .ok (.iconst (-1), 1) := by decide +kernel
theorem d_Bas_store_64 : decode b_Bas_store 64 = .ok (.if_icmp .ne 16, 3) := by decide +kernel
theorem d_Bas_store_67 : decode b_Bas_store 67 = .ok (.iload_n 2, 1) := by decide +kernel
theorem d_Bas_store_68 : decode b_Bas_store 68 = .ok (.bipush 8, 2) := by decide +kernel
theorem d_Bas_store_70 : decode b_Bas_store 70 = .ok (.if_icmp .ne 10, 3) := by decide +kernel
theorem d_Bas_store_73 : decode b_Bas_store 73 = .ok (.aload_n 0, 1) := by decide +kernel
theorem d_Bas_store_74 : decode b_Bas_store 74 = .ok (.aload_n 1, 1) := by decide +kernel
theorem d_Bas_store_75 : decode b_Bas_store 75 = .ok (.invokevirtual 191, 3) := by decide +kernel
theorem d_Bas_store_78 : decode b_Bas_store 78 = .ok (.istore 4, 2) := by decide +kernel
theorem d_Bas_store_80 : decode b_Bas_store 80 = .ok (.iload 4, 2) := by decide +kernel
theorem d_Bas_store_82 : decode b_Bas_store 82 = .ok (.iconst (-1), 1) := by decide +kernel
theorem d_Bas_store_83 : decode b_Bas_store 83 = .ok (.if_icmp .ne 20, 3) := by decide +kernel
theorem d_Bas_store_86 : decode b_Bas_store 86 = .ok (.aload_n 0, 1) := by decide +kernel
theorem d_Bas_store_87 : decode b_Bas_store 87 = .ok (.getfield 18, 3) := by decide +kernel
theorem d_Bas_store_90 : decode b_Bas_store 90 = .ok (.aload_n 1, 1) := by decide +kernel
theorem d_Bas_store_91 : decode b_Bas_store 91 = .ok (.getfield 105, 3) := by decide +kernel
theorem d_Bas_store_94 : decode b_Bas_store 94 = .ok (.iload_n 3, 1) := by decide +kernel
theorem d_Bas_store_95 : decode b_Bas_store 95 = .ok (.iload_n 2, 1) := by decide +kernel
theorem d_Bas_store_96 : decode b_Bas_store 96 = .ok (.bipush 6, 2) := by decide +kernel
theorem d_Bas_store_98 : decode b_Bas_store 98 = .ok (.invokevirtual 162, 3) := by decide +kernel
theorem d_Bas_store_101 : decode b_Bas_store 101 = .ok (.istore 4, 2) := by decide +kernel
theorem d_Bas_store_103 : decode b_Bas_store 103 = .ok (.iload 4, 2) := by decide +kernel
theorem d_Bas_store_105 : decode b_Bas_store 105 = .ok (.iconst (-1), 1) := by decide +kernel
theorem d_Bas_store_106 : decode b_Bas_store 106 = .ok (.if_icmp .eq 6, 3) := by decide +kernel
theorem d_Bas_store_109 : decode b_Bas_store 109 = .ok (.iload 4, 2) := by decide +kernel
theorem d_Bas_store_111 : decode b_Bas_store 111 = .ok (.ireturn, 1) := by decide +kernel
theorem d_Bas_store_112 : decode b_Bas_store 112 = .ok (.aload_n 0, 1) := by decide +kernel
theorem d_Bas_store_113 : decode b_Bas_store 113 = .ok (.getfield 18, 3) := by decide +kernel
theorem d_Bas_store_116 : decode b_Bas_store 116 = .ok (.getfield 98, 3) := by decide +kernel
theorem d_Bas_store_119 : decode b_Bas_store 119 = .ok (.aload_n 1, 1) := by decide +kernel
theorem d_Bas_store_120 : decode b_Bas_store 120 = .ok (.getfield 102, 3) := by decide +kernel
theorem d_Bas_store_123 : decode b_Bas_store 123 = .ok (.aaload, 1) := by decide +kernel
theorem d_Bas_store_124 : decode b_Bas_store 124 = .ok (.astore 5, 2) := by decide +kernel
theorem d_Bas_store_126 : decode b_Bas_store 126 = .ok (.iload_n 2, 1) := by decide +kernel
theorem d_Bas_store_127 : decode b_Bas_store 127 = .ok (.bipush 8, 2) := by decide +kernel
theorem d_Bas_store_129 : decode b_Bas_store 129 = .ok (.if_icmp .ne 15, 3) := by decide +kernel
theorem d_Bas_store_132 : decode b_Bas_store 132 = .ok (.aload_n 0, 1) := by decide +kernel
theorem d_Bas_store_133 : decode b_Bas_store 133 = .ok (.iload_n 3, 1) := by decide +kernel
theorem d_Bas_store_134 : decode b_Bas_store 134 = .ok (.iconst 2, 1) := by decide +kernel
theorem d_Bas_store_135 : decode b_Bas_store 135 = .ok (.iushr, 1) := by decide +kernel
theorem d_Bas_store_136 : decode b_Bas_store 136 = .ok (.aload 5, 2) := by decide +kernel
theorem d_Bas_store_138 : decode b_Bas_store 138 = .ok (.invokevirtual 194, 3) := by decide +kernel
theorem d_Bas_store_141 : decode b_Bas_store 141 = .ok (.goto 14, 3) := by decide +kernel
theorem d_Bas_store_144 : decode b_Bas_store 144 = .ok (.aload_n 0, 1) := by decide +kernel
theorem d_Bas_store_145 : decode b_Bas_store 145 = .ok (.iload_n 3, 1) := by decide +kernel
theorem d_Bas_store_146 : decode b_Bas_store 146 = .ok (.iload_n 2, 1) := by decide +kernel
theorem d_Bas_store_147 : decode b_Bas_store 147 = .ok (.aload 5, 2) := by decide +kernel
theorem d_Bas_store_149 : decode b_Bas_store 149 = .ok (.getfield 84, 3) := by decide +kernel
theorem d_Bas_store_152 : decode b_Bas_store 152 = .ok (.invokevirtual 198, 3) := by decide +kernel
theorem d_Bas_store_155 : decode b_Bas_store 155 = .ok (.iconst (-1), 1) := by decide +kernel
theorem d_Bas_store_156 : decode b_Bas_store 156 = .ok (.ireturn, 1) := by decide +kernel
theorem d_Bas_capabilityStoreFault_0 : decode b_Bas_capabilityStoreFault 0 = .ok (.aload_n 0, 1) := by decide +kernel
theorem d_Bas_capabilityStoreFault_1 : decode b_Bas_capabilityStoreFault 1 = .ok (.getfield 18, 3) := by decide +kernel
theorem d_Bas_capabilityStoreFault_4 : decode b_Bas_capabilityStoreFault 4 = .ok (.getfield 98, 3) := by decide +kernel
theorem d_Bas_capabilityStoreFault_7 : decode b_Bas_capabilityStoreFault 7 = .ok (.aload_n 1, 1) := by decide +kernel
theorem d_Bas_capabilityStoreFault_8 : decode b_Bas_capabilityStoreFault 8 = .ok (.getfield 105, 3) := by decide +kernel
theorem d_Bas_capabilityStoreFault_11 : decode b_Bas_capabilityStoreFault 11 = .ok (.aaload, 1) := by decide +kernel
theorem d_Bas_capabilityStoreFault_12 : decode b_Bas_capabilityStoreFault 12 = .ok (.astore_n 2, 1) := by decide +kernel
theorem d_Bas_capabilityStoreFault_13 : decode b_Bas_capabilityStoreFault 13 = .ok (.aload_n 0, 1) := by decide +kernel
theorem d_Bas_capabilityStoreFault_14 : decode b_Bas_capabilityStoreFault 14 = .ok (.getfield 18, 3) := by decide +kernel
theorem d_Bas_capabilityStoreFault_17 : decode b_Bas_capabilityStoreFault 17 = .ok (.getfield 98, 3) := by decide +kernel
theorem d_Bas_capabilityStoreFault_20 : decode b_Bas_capabilityStoreFault 20 = .ok (.aload_n 1, 1) := by decide +kernel
theorem d_Bas_capabilityStoreFault_21 : decode b_Bas_capabilityStoreFault 21 = .ok (.getfield 102, 3) := by decide +kernel
theorem d_Bas_capabilityStoreFault_24 : decode b_Bas_capabilityStoreFault 24 = .ok (.aaload, 1) := by decide +kernel
theorem d_Bas_capabilityStoreFault_25 : decode b_Bas_capabilityStoreFault 25 = .ok (.astore_n 3, 1) := by decide +kernel
theorem d_Bas_capabilityStoreFault_26 : decode b_Bas_capabilityStoreFault 26 = .ok (.aload_n 3, 1) := by decide +kernel
theorem d_Bas_capabilityStoreFault_27 : decode b_Bas_capabilityStoreFault 27 = .ok (.getfield 146, 3) := by decide +kernel
theorem d_Bas_capabilityStoreFault_30 : decode b_Bas_capabilityStoreFault 30 = .ok (.ifCond .eq 25, 3) := by decide +kernel
theorem d_Bas_capabilityStoreFault_33 : decode b_Bas_capabilityStoreFault 33 = .ok (.aload_n 2, 1) := by decide +kernel
theorem d_Bas_capabilityStoreFault_34 : decode b_Bas_capabilityStoreFault 34 = .ok (.iconst 5, 1) := by decide +kernel
theorem d_Bas_capabilityStoreFault_35 : decode b_Bas_capabilityStoreFault 35 = .ok (.invokevirtual 154, 3) := by decide +kernel
theorem d_Bas_capabilityStoreFault_38 : decode b_Bas_capabilityStoreFault 38 = .ok (.ifCond .ne 17, 3) := by decide +kernel
theorem d_Bas_capabilityStoreFault_41 : decode b_Bas_capabilityStoreFault 41 = .ok (.aload_n 0, 1) := by decide +kernel
theorem d_Bas_capabilityStoreFault_42 : decode b_Bas_capabilityStoreFault 42 = .ok (.getfield 18, 3) := by decide +kernel
theorem d_Bas_capabilityStoreFault_45 : decode b_Bas_capabilityStoreFault 45 = .ok (.aload_n 1, 1) := by decide +kernel
theorem d_Bas_capabilityStoreFault_46 : decode b_Bas_capabilityStoreFault 46 = .ok (.getfield 105, 3) := by decide +kernel
theorem d_Bas_capabilityStoreFault_49 : decode b_Bas_capabilityStoreFault 49 = .ok (.bipush 21, 2) := by decide +kernel
theorem d_Bas_capabilityStoreFault_51 : decode b_Bas_capabilityStoreFault 51 = .ok (.invokevirtual 133, 3) := by decide +kernel
theorem d_Bas_capabilityStoreFault_54 : decode b_Bas_capabilityStoreFault 54 = .ok (.ireturn, 1) := by decide +kernel
theorem d_Bas_capabilityStoreFault_55 : decode b_Bas_capabilityStoreFault 55 = .ok (.aload_n 3, 1) := by decide +kernel
theorem d_Bas_capabilityStoreFault_56 : decode b_Bas_capabilityStoreFault 56 = .ok (.getfield 146, 3) := by decide +kernel
theorem d_Bas_capabilityStoreFault_59 : decode b_Bas_capabilityStoreFault 59 = .ok (.ifCond .eq 34, 3) := by decide +kernel
theorem d_Bas_capabilityStoreFault_62 : decode b_Bas_capabilityStoreFault 62 = .ok (.aload_n 3, 1) := by decide +kernel
theorem d_Bas_capabilityStoreFault_63 : decode b_Bas_capabilityStoreFault 63 = .ok (.iconst 0, 1) := by decide +kernel
theorem d_Bas_capabilityStoreFault_64 : decode b_Bas_capabilityStoreFault 64 = .ok (.invokevirtual 154, 3) := by decide +kernel
theorem d_Bas_capabilityStoreFault_67 : decode b_Bas_capabilityStoreFault 67 = .ok (.ifCond .ne 26, 3) := by decide +kernel
theorem d_Bas_capabilityStoreFault_70 : decode b_Bas_capabilityStoreFault 70 = .ok (.aload_n 2, 1) := by decide +kernel
theorem d_Bas_capabilityStoreFault_71 : decode b_Bas_capabilityStoreFault 71 = .ok (.bipush 6, 2) := by decide +kernel
theorem d_Bas_capabilityStoreFault_73 : decode b_Bas_capabilityStoreFault 73 = .ok (.invokevirtual 154, 3) := by decide +kernel
theorem d_Bas_capabilityStoreFault_76 : decode b_Bas_capabilityStoreFault 76 = .ok (.ifCond .ne 17, 3) := by decide +kernel
theorem d_Bas_capabilityStoreFault_79 : decode b_Bas_capabilityStoreFault 79 = .ok (.aload_n 0, 1) := by decide +kernel
theorem d_Bas_capabilityStoreFault_80 : decode b_Bas_capabilityStoreFault 80 = .ok (.getfield 18, 3) := by decide +kernel
theorem d_Bas_capabilityStoreFault_83 : decode b_Bas_capabilityStoreFault 83 = .ok (.aload_n 1, 1) := by decide +kernel
theorem d_Bas_capabilityStoreFault_84 : decode b_Bas_capabilityStoreFault 84 = .ok (.getfield 105, 3) := by decide +kernel
theorem d_Bas_capabilityStoreFault_87 : decode b_Bas_capabilityStoreFault 87 = .ok (.bipush 22, 2) := by decide +kernel
theorem d_Bas_capabilityStoreFault_89 : decode b_Bas_capabilityStoreFault 89 = .ok (.invokevirtual 133, 3) := by decide +kernel
theorem d_Bas_capabilityStoreFault_92 : decode b_Bas_capabilityStoreFault 92 = .ok (.ireturn, 1) := by decide +kernel
theorem d_Bas_capabilityStoreFault_93 : decode b_Bas_capabilityStoreFault 93 = .ok (.iconst (-1), 1) := by decide +kernel
theorem d_Bas_capabilityStoreFault_94 : decode b_Bas_capabilityStoreFault 94 = .ok (.ireturn, 1) := by decide +kernel
theorem d_Bas_storeCapability_0 : decode b_Bas_storeCapability 0 = .ok (.aload_n 0, 1) := by decide +kernel
theorem d_Bas_storeCapability_1 : decode b_Bas_storeCapability 1 = .ok (.getfield 18, 3) := by decide +kernel
theorem d_Bas_storeCapability_4 : decode b_Bas_storeCapability 4 = .ok (.getfield 173, 3) := by decide +kernel
theorem d_Bas_storeCapability_7 : decode b_Bas_storeCapability 7 = .ok (.iload_n 1, 1) := by decide +kernel
theorem d_Bas_storeCapability_8 : decode b_Bas_storeCapability 8 = .ok (.aload_n 2, 1) := by decide +kernel
theorem d_Bas_storeCapability_9 : decode b_Bas_storeCapability 9 = .ok (.getfield 84, 3) := by decide +kernel
theorem d_Bas_storeCapability_12 : decode b_Bas_storeCapability 12 = .ok (.invokevirtual 202, 3) := by decide +kernel
theorem d_Bas_storeCapability_15 : decode b_Bas_storeCapability 15 = .ok (.aload_n 0, 1) := by decide +kernel
theorem d_Bas_storeCapability_16 : decode b_Bas_storeCapability 16 = .ok (.getfield 18, 3) := by decide +kernel
theorem d_Bas_storeCapability_19 : decode b_Bas_storeCapability 19 = .ok (.getfield 173, 3) := by decide +kernel
theorem d_Bas_storeCapability_22 : decode b_Bas_storeCapability 22 = .ok (.iload_n 1, 1) := by decide +kernel
theorem d_Bas_storeCapability_23 : decode b_Bas_storeCapability 23 = .ok (.iconst 1, 1) := by decide +kernel
theorem d_Bas_storeCapability_24 : decode b_Bas_storeCapability 24 = .ok (.iadd, 1) := by decide +kernel
theorem d_Bas_storeCapability_25 : decode b_Bas_storeCapability 25 = .ok (.aload_n 2, 1) := by decide +kernel
theorem d_Bas_storeCapability_26 : decode b_Bas_storeCapability 26 = .ok (.invokevirtual 206, 3) := by decide +kernel
theorem d_Bas_storeCapability_29 : decode b_Bas_storeCapability 29 = .ok (.invokevirtual 202, 3) := by decide +kernel
theorem d_Bas_storeCapability_32 : decode b_Bas_storeCapability 32 = .ok (.aload_n 2, 1) := by decide +kernel
theorem d_Bas_storeCapability_33 : decode b_Bas_storeCapability 33 = .ok (.getfield 146, 3) := by decide +kernel
theorem d_Bas_storeCapability_36 : decode b_Bas_storeCapability 36 = .ok (.ifCond .eq 14, 3) := by decide +kernel
theorem d_Bas_storeCapability_39 : decode b_Bas_storeCapability 39 = .ok (.aload_n 0, 1) := by decide +kernel
theorem d_Bas_storeCapability_40 : decode b_Bas_storeCapability 40 = .ok (.getfield 18, 3) := by decide +kernel
theorem d_Bas_storeCapability_43 : decode b_Bas_storeCapability 43 = .ok (.getfield 173, 3) := by decide +kernel
theorem d_Bas_storeCapability_46 : decode b_Bas_storeCapability 46 = .ok (.iload_n 1, 1) := by decide +kernel
theorem d_Bas_storeCapability_47 : decode b_Bas_storeCapability 47 = .ok (.invokevirtual 209, 3) := by decide +kernel
theorem d_Bas_storeCapability_50 : decode b_Bas_storeCapability 50 = .ok (.aload_n 0, 1) := by decide +kernel
theorem d_Bas_storeCapability_51 : decode b_Bas_storeCapability 51 = .ok (.getfield 18, 3) := by decide +kernel
theorem d_Bas_storeCapability_54 : decode b_Bas_storeCapability 54 = .ok (.getfield 212, 3) := by decide +kernel
theorem d_Bas_storeCapability_57 : decode b_Bas_storeCapability 57 = .ok (.iload_n 1, 1) := by decide +kernel
theorem d_Bas_storeCapability_58 : decode b_Bas_storeCapability 58 = .ok (.invokevirtual 216, 3) := by decide +kernel
theorem d_Bas_storeCapability_61 : decode b_Bas_storeCapability 61 = .ok (.aload_n 0, 1) := by decide +kernel
theorem d_Bas_storeCapability_62 : decode b_Bas_storeCapability 62 = .ok (.getfield 18, 3) := by decide +kernel
theorem d_Bas_storeCapability_65 : decode b_Bas_storeCapability 65 = .ok (.getfield 212, 3) := by decide +kernel
theorem d_Bas_storeCapability_68 : decode b_Bas_storeCapability 68 = .ok (.iload_n 1, 1) := by decide +kernel
theorem d_Bas_storeCapability_69 : decode b_Bas_storeCapability 69 = .ok (.iconst 1, 1) := by decide +kernel
theorem d_Bas_storeCapability_70 : decode b_Bas_storeCapability 70 = .ok (.iadd, 1) := by decide +kernel
theorem d_Bas_storeCapability_71 : decode b_Bas_storeCapability 71 = .ok (.invokevirtual 216, 3) := by decide +kernel
theorem d_Bas_storeCapability_74 : decode b_Bas_storeCapability 74 = .ok (.return_, 1) := by decide +kernel
theorem d_Bas_storeNumber_0 : decode b_Bas_storeNumber 0 = .ok (.iload_n 1, 1) := by decide +kernel
theorem d_Bas_storeNumber_1 : decode b_Bas_storeNumber 1 = .ok (.iconst 2, 1) := by decide +kernel
theorem d_Bas_storeNumber_2 : decode b_Bas_storeNumber 2 = .ok (.iushr, 1) := by decide +kernel
theorem d_Bas_storeNumber_3 : decode b_Bas_storeNumber 3 = .ok (.istore 4, 2) := by decide +kernel
theorem d_Bas_storeNumber_5 : decode b_Bas_storeNumber 5 = .ok (.bipush 8, 2) := by decide +kernel
theorem d_Bas_storeNumber_7 : decode b_Bas_storeNumber 7 = .ok (.iload_n 1, 1) := by decide +kernel
theorem d_Bas_storeNumber_8 : decode b_Bas_storeNumber 8 = .ok (.iconst 3, 1) := by decide +kernel
theorem d_Bas_storeNumber_9 : decode b_Bas_storeNumber 9 = .ok (.iand, 1) := by decide +kernel
theorem d_Bas_storeNumber_10 : decode b_Bas_storeNumber 10 = .ok (.imul, 1) := by decide +kernel
theorem d_Bas_storeNumber_11 : decode b_Bas_storeNumber 11 = .ok (.istore 5, 2) := by decide +kernel
theorem d_Bas_storeNumber_13 : decode b_Bas_storeNumber 13 = .ok (.iload_n 2, 1) := by decide +kernel
theorem d_Bas_storeNumber_14 : decode b_Bas_storeNumber 14 = .ok (.iconst 4, 1) := by decide +kernel
theorem d_Bas_storeNumber_15 : decode b_Bas_storeNumber 15 = .ok (.if_icmp .ne 7, 3) := by decide +kernel
theorem d_Bas_storeNumber_18 : decode b_Bas_storeNumber 18 = .ok (.iconst (-1), 1) := by decide +kernel
theorem d_Bas_storeNumber_19 : decode b_Bas_storeNumber 19 = .ok (.goto 14, 3) := by decide +kernel
theorem d_Bas_storeNumber_22 : decode b_Bas_storeNumber 22 = .ok (.iconst 1, 1) := by decide +kernel
theorem d_Bas_storeNumber_23 : decode b_Bas_storeNumber 23 = .ok (.bipush 8, 2) := by decide +kernel
theorem d_Bas_storeNumber_25 : decode b_Bas_storeNumber 25 = .ok (.iload_n 2, 1) := by decide +kernel
theorem d_Bas_storeNumber_26 : decode b_Bas_storeNumber 26 = .ok (.imul, 1) := by decide +kernel
theorem d_Bas_storeNumber_27 : decode b_Bas_storeNumber 27 = .ok (.ishl, 1) := by decide +kernel
theorem d_Bas_storeNumber_28 : decode b_Bas_storeNumber 28 = .ok (.iconst 1, 1) := by decide +kernel
theorem d_Bas_storeNumber_29 : decode b_Bas_storeNumber 29 = .ok (.isub, 1) := by decide +kernel
theorem d_Bas_storeNumber_30 : decode b_Bas_storeNumber 30 = .ok (.iload 5, 2) := by decide +kernel
theorem d_Bas_storeNumber_32 : decode b_Bas_storeNumber 32 = .ok (.ishl, 1) := by decide +kernel
theorem d_Bas_storeNumber_33 : decode b_Bas_storeNumber 33 = .ok (.istore 6, 2) := by decide +kernel
theorem d_Bas_storeNumber_35 : decode b_Bas_storeNumber 35 = .ok (.aload_n 0, 1) := by decide +kernel
theorem d_Bas_storeNumber_36 : decode b_Bas_storeNumber 36 = .ok (.getfield 18, 3) := by decide +kernel
theorem d_Bas_storeNumber_39 : decode b_Bas_storeNumber 39 = .ok (.getfield 173, 3) := by decide +kernel
theorem d_Bas_storeNumber_42 : decode b_Bas_storeNumber 42 = .ok (.iload 4, 2) := by decide +kernel
theorem d_Bas_storeNumber_44 : decode b_Bas_storeNumber 44 = .ok (.aload_n 0, 1) := by decide +kernel
theorem d_Bas_storeNumber_45 : decode b_Bas_storeNumber 45 = .ok (.getfield 18, 3) := by decide +kernel
theorem d_Bas_storeNumber_48 : decode b_Bas_storeNumber 48 = .ok (.getfield 173, 3) := by decide +kernel
theorem d_Bas_storeNumber_51 : decode b_Bas_storeNumber 51 = .ok (.iload 4, 2) := by decide +kernel
theorem d_Bas_storeNumber_53 : decode b_Bas_storeNumber 53 = .ok (.invokevirtual 177, 3) := by decide +kernel
theorem d_Bas_storeNumber_56 : decode b_Bas_storeNumber 56 = .ok (.iload 6, 2) := by decide +kernel
theorem d_Bas_storeNumber_58 : decode b_Bas_storeNumber 58 = .ok (.iconst (-1), 1) := by decide +kernel
theorem d_Bas_storeNumber_59 : decode b_Bas_storeNumber 59 = .ok (.ixor, 1) := by decide +kernel
theorem d_Bas_storeNumber_60 : decode b_Bas_storeNumber 60 = .ok (.iand, 1) := by decide +kernel
theorem d_Bas_storeNumber_61 : decode b_Bas_storeNumber 61 = .ok (.iload_n 3, 1) := by decide +kernel
theorem d_Bas_storeNumber_62 : decode b_Bas_storeNumber 62 = .ok (.iload 5, 2) := by decide +kernel
theorem d_Bas_storeNumber_64 : decode b_Bas_storeNumber 64 = .ok (.ishl, 1) := by decide +kernel
theorem d_Bas_storeNumber_65 : decode b_Bas_storeNumber 65 = .ok (.iload 6, 2) := by decide +kernel
theorem d_Bas_storeNumber_67 : decode b_Bas_storeNumber 67 = .ok (.iand, 1) := by decide +kernel
theorem d_Bas_storeNumber_68 : decode b_Bas_storeNumber 68 = .ok (.ior, 1) := by decide +kernel
theorem d_Bas_storeNumber_69 : decode b_Bas_storeNumber 69 = .ok (.invokevirtual 202, 3) := by decide +kernel
theorem d_Bas_storeNumber_72 : decode b_Bas_storeNumber 72 = .ok (.aload_n 0, 1) := by decide +kernel
theorem d_Bas_storeNumber_73 : decode b_Bas_storeNumber 73 = .ok (.getfield 18, 3) := by decide +kernel
theorem d_Bas_storeNumber_76 : decode b_Bas_storeNumber 76 = .ok (.getfield 212, 3) := by decide +kernel
theorem d_Bas_storeNumber_79 : decode b_Bas_storeNumber 79 = .ok (.iload 4, 2) := by decide +kernel
theorem d_Bas_storeNumber_81 : decode b_Bas_storeNumber 81 = .ok (.invokevirtual 216, 3) := by decide +kernel
theorem d_Bas_storeNumber_84 : decode b_Bas_storeNumber 84 = .ok (.return_, 1) := by decide +kernel
theorem d_Bas_operate_0 : decode b_Bas_operate 0 = .ok (.aload_n 1, 1) := by decide +kernel
theorem d_Bas_operate_1 : decode b_Bas_operate 1 = .ok (.getfield 95, 3) := by decide +kernel
theorem d_Bas_operate_4 : decode b_Bas_operate 4 = .ok (.bipush 32, 2) := by decide +kernel
theorem d_Bas_operate_6 : decode b_Bas_operate 6 = .ok (.if_icmp .ne 22, 3) := by decide +kernel
theorem d_Bas_operate_9 : decode b_Bas_operate 9 = .ok (.aload_n 1, 1) := by decide +kernel
theorem d_Bas_operate_10 : decode b_Bas_operate 10 = .ok (.getfield 32, 3) := by decide +kernel
theorem d_Bas_operate_13 : decode b_Bas_operate 13 = .ok (.ifCond .eq 11, 3) := by decide +kernel
theorem d_Bas_operate_16 : decode b_Bas_operate 16 = .ok (.aload_n 1, 1) := by decide +kernel
theorem d_Bas_operate_17 : decode b_Bas_operate 17 = .ok (.getfield 32, 3) := by decide +kernel
theorem d_Bas_operate_20 : decode b_Bas_operate 20 = .ok (.iconst 5, 1) := by decide +kernel
theorem d_Bas_operate_21 : decode b_Bas_operate 21 = .ok (.if_icmp .ne 7, 3) := by decide +kernel
theorem d_Bas_operate_24 : decode b_Bas_operate 24 = .ok (.iconst 1, 1) := by decide +kernel
theorem d_Bas_operate_25 : decode b_Bas_operate 25 = .ok (.goto 4, 3) := by decide +kernel
theorem d_Bas_operate_28 : decode b_Bas_operate 28 = .ok (.iconst 0, 1) := by decide +kernel
theorem d_Bas_operate_29 : decode b_Bas_operate 29 = .ok (.istore_n 2, 1) := by decide +kernel
theorem d_Bas_operate_30 : decode b_Bas_operate 30 = .ok (.aload_n 1, 1) := by decide +kernel
theorem d_Bas_operate_31 : decode b_Bas_operate 31 = .ok (.getfield 95, 3) := by decide +kernel
theorem d_Bas_operate_34 : decode b_Bas_operate 34 = .ok (.ifCond .eq 16, 3) := by decide +kernel
theorem d_Bas_operate_37 : decode b_Bas_operate 37 = .ok (.iload_n 2, 1) := by decide +kernel
theorem d_Bas_operate_38 : decode b_Bas_operate 38 = .ok (.ifCond .ne 12, 3) := by decide +kernel
theorem d_Bas_operate_41 : decode b_Bas_operate 41 = .ok (.aload_n 0, 1) := by decide +kernel
theorem d_Bas_operate_42 : decode b_Bas_operate 42 = .ok (.getfield 18, 3) := by decide +kernel
theorem d_Bas_operate_45 : decode b_Bas_operate 45 = .ok (.aload_n 1, 1) := by decide +kernel
theorem d_Bas_operate_46 : decode b_Bas_operate 46 = .ok (.invokevirtual 35, 3) := by decide +kernel
theorem d_Bas_operate_49 : decode b_Bas_operate 49 = .ok (.ireturn, 1) := by decide +kernel
theorem d_Bas_operate_50 : decode b_Bas_operate 50 = .ok (.aload_n 0, 1) := by decide +kernel
theorem d_Bas_operate_51 : decode b_Bas_operate 51 = .ok (.getfield 18, 3) := by decide +kernel
theorem d_Bas_operate_54 : decode b_Bas_operate 54 = .ok (.getfield 98, 3) := by decide +kernel
theorem d_Bas_operate_57 : decode b_Bas_operate 57 = .ok (.aload_n 1, 1) := by decide +kernel
theorem d_Bas_operate_58 : decode b_Bas_operate 58 = .ok (.getfield 102, 3) := by decide +kernel
theorem d_Bas_operate_61 : decode b_Bas_operate 61 = .ok (.aaload, 1) := by decide +kernel
theorem d_Bas_operate_62 : decode b_Bas_operate 62 = .ok (.getfield 84, 3) := by decide +kernel
theorem d_Bas_operate_65 : decode b_Bas_operate 65 = .ok (.istore_n 3, 1) := by decide +kernel
theorem d_Bas_operate_66 : decode b_Bas_operate 66 = .ok (.aload_n 0, 1) := by decide +kernel
theorem d_Bas_operate_67 : decode b_Bas_operate 67 = .ok (.getfield 18, 3) := by decide +kernel
theorem d_Bas_operate_70 : decode b_Bas_operate 70 = .ok (.aload_n 1, 1) := by decide +kernel
theorem d_Bas_operate_71 : decode b_Bas_operate 71 = .ok (.getfield 52, 3) := by decide +kernel
theorem d_Bas_operate_74 : decode b_Bas_operate 74 = .ok (.aload_n 1, 1) := by decide +kernel
theorem d_Bas_operate_75 : decode b_Bas_operate 75 = .ok (.getfield 32, 3) := by decide +kernel
theorem d_Bas_operate_78 : decode b_Bas_operate 78 = .ok (.iload_n 2, 1) := by decide +kernel
theorem d_Bas_operate_79 : decode b_Bas_operate 79 = .ok (.aload_n 0, 1) := by decide +kernel
theorem d_Bas_operate_80 : decode b_Bas_operate 80 = .ok (.getfield 18, 3) := by decide +kernel
theorem d_Bas_operate_83 : decode b_Bas_operate 83 = .ok (.getfield 98, 3) := by decide +kernel
theorem d_Bas_operate_86 : decode b_Bas_operate 86 = .ok (.aload_n 1, 1) := by decide +kernel
theorem d_Bas_operate_87 : decode b_Bas_operate 87 = .ok (.getfield 105, 3) := by decide +kernel
theorem d_Bas_operate_90 : decode b_Bas_operate 90 = .ok (.aaload, 1) := by decide +kernel
theorem d_Bas_operate_91 : decode b_Bas_operate 91 = .ok (.getfield 84, 3) := by decide +kernel
theorem d_Bas_operate_94 : decode b_Bas_operate 94 = .ok (.iload_n 3, 1) := by decide +kernel
theorem d_Bas_operate_95 : decode b_Bas_operate 95 = .ok (.invokestatic 108, 3) := by decide +kernel
theorem d_Bas_operate_98 : decode b_Bas_operate 98 = .ok (.invokevirtual 58, 3) := by decide +kernel
theorem d_Bas_operate_101 : decode b_Bas_operate 101 = .ok (.ireturn, 1) := by decide +kernel
theorem d_Bas_branch_0 : decode b_Bas_branch 0 = .ok (.aload_n 1, 1) := by decide +kernel
theorem d_Bas_branch_1 : decode b_Bas_branch 1 = .ok (.getfield 32, 3) := by decide +kernel
theorem d_Bas_branch_4 : decode b_Bas_branch 4 = .ok (.iconst 2, 1) := by decide +kernel
theorem d_Bas_branch_5 : decode b_Bas_branch 5 = .ok (.if_icmp .eq 11, 3) := by decide +kernel
theorem d_Bas_branch_8 : decode b_Bas_branch 8 = .ok (.aload_n 1, 1) := by decide +kernel
theorem d_Bas_branch_9 : decode b_Bas_branch 9 = .ok (.getfield 32, 3) := by decide +kernel
theorem d_Bas_branch_12 : decode b_Bas_branch 12 = .ok (.iconst 3, 1) := by decide +kernel
theorem d_Bas_branch_13 : decode b_Bas_branch 13 = .ok (.if_icmp .ne 12, 3) := by decide +kernel
theorem d_Bas_branch_16 : decode b_Bas_branch 16 = .ok (.aload_n 0, 1) := by decide +kernel
theorem d_Bas_branch_17 : decode b_Bas_branch 17 = .ok (.getfield 18, 3) := by decide +kernel
theorem d_Bas_branch_20 : decode b_Bas_branch 20 = .ok (.aload_n 1, 1) := by decide +kernel
theorem d_Bas_branch_21 : decode b_Bas_branch 21 = .ok (.invokevirtual 35, 3) := by decide +kernel
theorem d_Bas_branch_24 : decode b_Bas_branch 24 = .ok (.ireturn, 1) := by decide +kernel
theorem d_Bas_branch_25 : decode b_Bas_branch 25 = .ok (.aload_n 0, 1) := by decide +kernel
theorem d_Bas_branch_26 : decode b_Bas_branch 26 = .ok (.getfield 18, 3) := by decide +kernel
theorem d_Bas_branch_29 : decode b_Bas_branch 29 = .ok (.getfield 98, 3) := by decide +kernel
theorem d_Bas_branch_32 : decode b_Bas_branch 32 = .ok (.aload_n 1, 1) := by decide +kernel
theorem d_Bas_branch_33 : decode b_Bas_branch 33 = .ok (.getfield 105, 3) := by decide +kernel
theorem d_Bas_branch_36 : decode b_Bas_branch 36 = .ok (.aaload, 1) := by decide +kernel
theorem d_Bas_branch_37 : decode b_Bas_branch 37 = .ok (.getfield 84, 3) := by decide +kernel
theorem d_Bas_branch_40 : decode b_Bas_branch 40 = .ok (.istore_n 2, 1) := by decide +kernel
theorem d_Bas_branch_41 : decode b_Bas_branch 41 = .ok (.aload_n 0, 1) := by decide +kernel
theorem d_Bas_branch_42 : decode b_Bas_branch 42 = .ok (.getfield 18, 3) := by decide +kernel
theorem d_Bas_branch_45 : decode b_Bas_branch 45 = .ok (.getfield 98, 3) := by decide +kernel
theorem d_Bas_branch_48 : decode b_Bas_branch 48 = .ok (.aload_n 1, 1) := by decide +kernel
theorem d_Bas_branch_49 : decode b_Bas_branch 49 = .ok (.getfield 102, 3) := by decide +kernel
theorem d_Bas_branch_52 : decode b_Bas_branch 52 = .ok (.aaload, 1) := by decide +kernel
theorem d_Bas_branch_53 : decode b_Bas_branch 53 = .ok (.getfield 84, 3) := by decide +kernel
theorem d_Bas_branch_56 : decode b_Bas_branch 56 = .ok (.istore_n 3, 1) := by decide +kernel
theorem d_Bas_branch_57 : decode b_Bas_branch 57 = .ok (.aload_n 1, 1) := by decide +kernel
theorem d_Bas_branch_58 : decode b_Bas_branch 58 = .ok (.getfield 32, 3) := by decide +kernel
theorem d_Bas_branch_61 : decode b_Bas_branch 61 = .ok (.iload_n 2, 1) := by decide +kernel
theorem d_Bas_branch_62 : decode b_Bas_branch 62 = .ok (.iload_n 3, 1) := by decide +kernel
theorem d_Bas_branch_63 : decode b_Bas_branch 63 = .ok (.invokestatic 117, 3) := by decide +kernel
theorem d_Bas_branch_66 : decode b_Bas_branch 66 = .ok (.ifCond .ne 5, 3) := by decide +kernel
theorem d_Bas_branch_69 : decode b_Bas_branch 69 = .ok (.iconst (-1), 1) := by decide +kernel
theorem d_Bas_branch_70 : decode b_Bas_branch 70 = .ok (.ireturn, 1) := by decide +kernel
theorem d_Bas_branch_71 : decode b_Bas_branch 71 = .ok (.aload_n 0, 1) := by decide +kernel
theorem d_Bas_branch_72 : decode b_Bas_branch 72 = .ok (.getfield 18, 3) := by decide +kernel
theorem d_Bas_branch_75 : decode b_Bas_branch 75 = .ok (.getfield 77, 3) := by decide +kernel
theorem d_Bas_branch_78 : decode b_Bas_branch 78 = .ok (.getfield 84, 3) := by decide +kernel
theorem d_Bas_branch_81 : decode b_Bas_branch 81 = .ok (.aload_n 1, 1) := by decide +kernel
theorem d_Bas_branch_82 : decode b_Bas_branch 82 = .ok (.getfield 55, 3) := by decide +kernel
theorem d_Bas_branch_85 : decode b_Bas_branch 85 = .ok (.iadd, 1) := by decide +kernel
theorem d_Bas_branch_86 : decode b_Bas_branch 86 = .ok (.istore 4, 2) := by decide +kernel
theorem d_Bas_branch_88 : decode b_Bas_branch 88 = .ok (.aload_n 0, 1) := by decide +kernel
theorem d_Bas_branch_89 : decode b_Bas_branch 89 = .ok (.iload 4, 2) := by decide +kernel
theorem d_Bas_branch_91 : decode b_Bas_branch 91 = .ok (.invokevirtual 121, 3) := by decide +kernel
theorem d_Bas_branch_94 : decode b_Bas_branch 94 = .ok (.istore 5, 2) := by decide +kernel
theorem d_Bas_branch_96 : decode b_Bas_branch 96 = .ok (.iload 5, 2) := by decide +kernel
theorem d_Bas_branch_98 : decode b_Bas_branch 98 = .ok (.iconst (-1), 1) := by decide +kernel
theorem d_Bas_branch_99 : decode b_Bas_branch 99 = .ok (.if_icmp .ne 18, 3) := by decide +kernel
theorem d_Bas_branch_102 : decode b_Bas_branch 102 = .ok (.aload_n 0, 1) := by decide +kernel
theorem d_Bas_branch_103 : decode b_Bas_branch 103 = .ok (.getfield 18, 3) := by decide +kernel
theorem d_Bas_branch_106 : decode b_Bas_branch 106 = .ok (.getfield 77, 3) := by decide +kernel
theorem d_Bas_branch_109 : decode b_Bas_branch 109 = .ok (.iload 4, 2) := by decide +kernel
theorem d_Bas_branch_111 : decode b_Bas_branch 111 = .ok (.invokevirtual 87, 3) := by decide +kernel
theorem d_Bas_branch_114 : decode b_Bas_branch 114 = .ok (.bipush (-2), 2) := by decide +kernel
theorem d_Bas_branch_116 : decode b_Bas_branch 116 = .ok (.ireturn, 1) := by decide +kernel
theorem d_Bas_branch_117 : decode b_Bas_branch 117 = .ok (.iload 5, 2) := by decide +kernel
theorem d_Bas_branch_119 : decode b_Bas_branch 119 = .ok (.ireturn, 1) := by decide +kernel
theorem d_Bas_isTaken_0 : decode b_Bas_isTaken 0 = .ok (.iload_n 0, 1) := by decide +kernel
theorem d_Bas_isTaken_1 : decode b_Bas_isTaken 1 = .ok (.tableswitch 101 0 6 #[43, 54, 101, 101, 65, 76, 87], 43) := by decide +kernel
theorem d_Bas_isTaken_44 : decode b_Bas_isTaken 44 = .ok (.iload_n 1, 1) := by decide +kernel
theorem d_Bas_isTaken_45 : decode b_Bas_isTaken 45 = .ok (.iload_n 2, 1) := by decide +kernel
theorem d_Bas_isTaken_46 : decode b_Bas_isTaken 46 = .ok (.if_icmp .ne 7, 3) := by decide +kernel
theorem d_Bas_isTaken_49 : decode b_Bas_isTaken 49 = .ok (.iconst 1, 1) := by decide +kernel
theorem d_Bas_isTaken_50 : decode b_Bas_isTaken 50 = .ok (.goto 4, 3) := by decide +kernel
theorem d_Bas_isTaken_53 : decode b_Bas_isTaken 53 = .ok (.iconst 0, 1) := by decide +kernel
theorem d_Bas_isTaken_54 : decode b_Bas_isTaken 54 = .ok (.ireturn, 1) := by decide +kernel
theorem d_Bas_isTaken_55 : decode b_Bas_isTaken 55 = .ok (.iload_n 1, 1) := by decide +kernel
theorem d_Bas_isTaken_56 : decode b_Bas_isTaken 56 = .ok (.iload_n 2, 1) := by decide +kernel
theorem d_Bas_isTaken_57 : decode b_Bas_isTaken 57 = .ok (.if_icmp .eq 7, 3) := by decide +kernel
theorem d_Bas_isTaken_60 : decode b_Bas_isTaken 60 = .ok (.iconst 1, 1) := by decide +kernel
theorem d_Bas_isTaken_61 : decode b_Bas_isTaken 61 = .ok (.goto 4, 3) := by decide +kernel
theorem d_Bas_isTaken_64 : decode b_Bas_isTaken 64 = .ok (.iconst 0, 1) := by decide +kernel
theorem d_Bas_isTaken_65 : decode b_Bas_isTaken 65 = .ok (.ireturn, 1) := by decide +kernel
theorem d_Bas_isTaken_66 : decode b_Bas_isTaken 66 = .ok (.iload_n 1, 1) := by decide +kernel
theorem d_Bas_isTaken_67 : decode b_Bas_isTaken 67 = .ok (.iload_n 2, 1) := by decide +kernel
theorem d_Bas_isTaken_68 : decode b_Bas_isTaken 68 = .ok (.if_icmp .ge 7, 3) := by decide +kernel
theorem d_Bas_isTaken_71 : decode b_Bas_isTaken 71 = .ok (.iconst 1, 1) := by decide +kernel
theorem d_Bas_isTaken_72 : decode b_Bas_isTaken 72 = .ok (.goto 4, 3) := by decide +kernel
theorem d_Bas_isTaken_75 : decode b_Bas_isTaken 75 = .ok (.iconst 0, 1) := by decide +kernel
theorem d_Bas_isTaken_76 : decode b_Bas_isTaken 76 = .ok (.ireturn, 1) := by decide +kernel
theorem d_Bas_isTaken_77 : decode b_Bas_isTaken 77 = .ok (.iload_n 1, 1) := by decide +kernel
theorem d_Bas_isTaken_78 : decode b_Bas_isTaken 78 = .ok (.iload_n 2, 1) := by decide +kernel
theorem d_Bas_isTaken_79 : decode b_Bas_isTaken 79 = .ok (.if_icmp .lt 7, 3) := by decide +kernel
theorem d_Bas_isTaken_82 : decode b_Bas_isTaken 82 = .ok (.iconst 1, 1) := by decide +kernel
theorem d_Bas_isTaken_83 : decode b_Bas_isTaken 83 = .ok (.goto 4, 3) := by decide +kernel
theorem d_Bas_isTaken_86 : decode b_Bas_isTaken 86 = .ok (.iconst 0, 1) := by decide +kernel
theorem d_Bas_isTaken_87 : decode b_Bas_isTaken 87 = .ok (.ireturn, 1) := by decide +kernel
theorem d_Bas_isTaken_88 : decode b_Bas_isTaken 88 = .ok (.iload_n 1, 1) := by decide +kernel
theorem d_Bas_isTaken_89 : decode b_Bas_isTaken 89 = .ok (.iload_n 2, 1) := by decide +kernel
theorem d_Bas_isTaken_90 : decode b_Bas_isTaken 90 = .ok (.invokestatic 112, 3) := by decide +kernel
theorem d_Bas_isTaken_93 : decode b_Bas_isTaken 93 = .ok (.ifCond .ge 7, 3) := by decide +kernel
theorem d_Bas_isTaken_96 : decode b_Bas_isTaken 96 = .ok (.iconst 1, 1) := by decide +kernel
theorem d_Bas_isTaken_97 : decode b_Bas_isTaken 97 = .ok (.goto 4, 3) := by decide +kernel
theorem d_Bas_isTaken_100 : decode b_Bas_isTaken 100 = .ok (.iconst 0, 1) := by decide +kernel
theorem d_Bas_isTaken_101 : decode b_Bas_isTaken 101 = .ok (.ireturn, 1) := by decide +kernel
theorem d_Bas_isTaken_102 : decode b_Bas_isTaken 102 = .ok (.iload_n 1, 1) := by decide +kernel
theorem d_Bas_isTaken_103 : decode b_Bas_isTaken 103 = .ok (.iload_n 2, 1) := by decide +kernel
theorem d_Bas_isTaken_104 : decode b_Bas_isTaken 104 = .ok (.invokestatic 112, 3) := by decide +kernel
theorem d_Bas_isTaken_107 : decode b_Bas_isTaken 107 = .ok (.ifCond .lt 7, 3) := by decide +kernel
theorem d_Bas_isTaken_110 : decode b_Bas_isTaken 110 = .ok (.iconst 1, 1) := by decide +kernel
theorem d_Bas_isTaken_111 : decode b_Bas_isTaken 111 = .ok (.goto 4, 3) := by decide +kernel
theorem d_Bas_isTaken_114 : decode b_Bas_isTaken 114 = .ok (.iconst 0, 1) := by decide +kernel
theorem d_Bas_isTaken_115 : decode b_Bas_isTaken 115 = .ok (.ireturn, 1) := by decide +kernel
theorem d_Bas_jumpFault_0 : decode b_Bas_jumpFault 0 = .ok (.aload_n 0, 1) := by decide +kernel
theorem d_Bas_jumpFault_1 : decode b_Bas_jumpFault 1 = .ok (.getfield 18, 3) := by decide +kernel
theorem d_Bas_jumpFault_4 : decode b_Bas_jumpFault 4 = .ok (.getfield 77, 3) := by decide +kernel
theorem d_Bas_jumpFault_7 : decode b_Bas_jumpFault 7 = .ok (.iload_n 1, 1) := by decide +kernel
theorem d_Bas_jumpFault_8 : decode b_Bas_jumpFault 8 = .ok (.ldc2_w 127, 3) := by decide +kernel
theorem d_Bas_jumpFault_11 : decode b_Bas_jumpFault 11 = .ok (.invokevirtual 129, 3) := by decide +kernel
theorem d_Bas_jumpFault_14 : decode b_Bas_jumpFault 14 = .ok (.ifCond .ne 14, 3) := by decide +kernel
theorem d_Bas_jumpFault_17 : decode b_Bas_jumpFault 17 = .ok (.aload_n 0, 1) := by decide +kernel
theorem d_Bas_jumpFault_18 : decode b_Bas_jumpFault 18 = .ok (.getfield 18, 3) := by decide +kernel
theorem d_Bas_jumpFault_21 : decode b_Bas_jumpFault 21 = .ok (.bipush 32, 2) := by decide +kernel
theorem d_Bas_jumpFault_23 : decode b_Bas_jumpFault 23 = .ok (.iconst 1, 1) := by decide +kernel
theorem d_Bas_jumpFault_24 : decode b_Bas_jumpFault 24 = .ok (.invokevirtual 133, 3) := by decide +kernel
theorem d_Bas_jumpFault_27 : decode b_Bas_jumpFault 27 = .ok (.ireturn, 1) := by decide +kernel
theorem d_Bas_jumpFault_28 : decode b_Bas_jumpFault 28 = .ok (.iload_n 1, 1) := by decide +kernel
theorem d_Bas_jumpFault_29 : decode b_Bas_jumpFault 29 = .ok (.iconst 3, 1) := by decide +kernel
theorem d_Bas_jumpFault_30 : decode b_Bas_jumpFault 30 = .ok (.iand, 1) := by decide +kernel
theorem d_Bas_jumpFault_31 : decode b_Bas_jumpFault 31 = .ok (.ifCond .ne 7, 3) := by decide +kernel
theorem d_Bas_jumpFault_34 : decode b_Bas_jumpFault 34 = .ok (.iconst (-1), 1) := by decide +kernel
theorem d_Bas_jumpFault_35 : decode b_Bas_jumpFault 35 = .ok (.goto 12, 3) := by decide +kernel
theorem d_Bas_jumpFault_38 : decode b_Bas_jumpFault 38 = .ok (.aload_n 0, 1) := by decide +kernel
theorem d_Bas_jumpFault_39 : decode b_Bas_jumpFault 39 = .ok (.getfield 18, 3) := by decide +kernel
theorem d_Bas_jumpFault_42 : decode b_Bas_jumpFault 42 = .ok (.iconst 0, 1) := by decide +kernel
theorem d_Bas_jumpFault_43 : decode b_Bas_jumpFault 43 = .ok (.iload_n 1, 1) := by decide +kernel
theorem d_Bas_jumpFault_44 : decode b_Bas_jumpFault 44 = .ok (.invokevirtual 136, 3) := by decide +kernel
theorem d_Bas_jumpFault_47 : decode b_Bas_jumpFault 47 = .ok (.ireturn, 1) := by decide +kernel
theorem d_Bas_jumpByRegister_0 : decode b_Bas_jumpByRegister 0 = .ok (.aload_n 1, 1) := by decide +kernel
theorem d_Bas_jumpByRegister_1 : decode b_Bas_jumpByRegister 1 = .ok (.getfield 32, 3) := by decide +kernel
theorem d_Bas_jumpByRegister_4 : decode b_Bas_jumpByRegister 4 = .ok (.ifCond .eq 12, 3) := by decide +kernel
theorem d_Bas_jumpByRegister_7 : decode b_Bas_jumpByRegister 7 = .ok (.aload_n 0, 1) := by decide +kernel
theorem d_Bas_jumpByRegister_8 : decode b_Bas_jumpByRegister 8 = .ok (.getfield 18, 3) := by decide +kernel
theorem d_Bas_jumpByRegister_11 : decode b_Bas_jumpByRegister 11 = .ok (.aload_n 1, 1) := by decide +kernel
theorem d_Bas_jumpByRegister_12 : decode b_Bas_jumpByRegister 12 = .ok (.invokevirtual 35, 3) := by decide +kernel
theorem d_Bas_jumpByRegister_15 : decode b_Bas_jumpByRegister 15 = .ok (.ireturn, 1) := by decide +kernel
theorem d_Bas_jumpByRegister_16 : decode b_Bas_jumpByRegister 16 = .ok (.aload_n 0, 1) := by decide +kernel
theorem d_Bas_jumpByRegister_17 : decode b_Bas_jumpByRegister 17 = .ok (.getfield 18, 3) := by decide +kernel
theorem d_Bas_jumpByRegister_20 : decode b_Bas_jumpByRegister 20 = .ok (.getfield 98, 3) := by decide +kernel
theorem d_Bas_jumpByRegister_23 : decode b_Bas_jumpByRegister 23 = .ok (.aload_n 1, 1) := by decide +kernel
theorem d_Bas_jumpByRegister_24 : decode b_Bas_jumpByRegister 24 = .ok (.getfield 105, 3) := by decide +kernel
theorem d_Bas_jumpByRegister_27 : decode b_Bas_jumpByRegister 27 = .ok (.aaload, 1) := by decide +kernel
theorem d_Bas_jumpByRegister_28 : decode b_Bas_jumpByRegister 28 = .ok (.astore_n 2, 1) := by decide +kernel
theorem d_Bas_jumpByRegister_29 : decode b_Bas_jumpByRegister 29 = .ok (.aload_n 2, 1) := by decide +kernel
theorem d_Bas_jumpByRegister_30 : decode b_Bas_jumpByRegister 30 = .ok (.getfield 84, 3) := by decide +kernel
theorem d_Bas_jumpByRegister_33 : decode b_Bas_jumpByRegister 33 = .ok (.aload_n 1, 1) := by decide +kernel
theorem d_Bas_jumpByRegister_34 : decode b_Bas_jumpByRegister 34 = .ok (.getfield 55, 3) := by decide +kernel
theorem d_Bas_jumpByRegister_37 : decode b_Bas_jumpByRegister 37 = .ok (.iadd, 1) := by decide +kernel
theorem d_Bas_jumpByRegister_38 : decode b_Bas_jumpByRegister 38 = .ok (.bipush (-2), 2) := by decide +kernel
theorem d_Bas_jumpByRegister_40 : decode b_Bas_jumpByRegister 40 = .ok (.iand, 1) := by decide +kernel
theorem d_Bas_jumpByRegister_41 : decode b_Bas_jumpByRegister 41 = .ok (.istore_n 3, 1) := by decide +kernel
theorem d_Bas_jumpByRegister_42 : decode b_Bas_jumpByRegister 42 = .ok (.aload_n 2, 1) := by decide +kernel
theorem d_Bas_jumpByRegister_43 : decode b_Bas_jumpByRegister 43 = .ok (.aload_n 1, 1) := by decide +kernel
theorem d_Bas_jumpByRegister_44 : decode b_Bas_jumpByRegister 44 = .ok (.getfield 55, 3) := by decide +kernel
theorem d_Bas_jumpByRegister_47 : decode b_Bas_jumpByRegister 47 = .ok (.iload_n 3, 1) := by decide +kernel
theorem d_Bas_jumpByRegister_48 : decode b_Bas_jumpByRegister 48 = .ok (.invokestatic 139, 3) := by decide +kernel
theorem d_Bas_jumpByRegister_51 : decode b_Bas_jumpByRegister 51 = .ok (.istore 4, 2) := by decide +kernel
theorem d_Bas_jumpByRegister_53 : decode b_Bas_jumpByRegister 53 = .ok (.iload 4, 2) := by decide +kernel
theorem d_Bas_jumpByRegister_55 : decode b_Bas_jumpByRegister 55 = .ok (.ifCond .eq 17, 3) := by decide +kernel
theorem d_Bas_jumpByRegister_58 : decode b_Bas_jumpByRegister 58 = .ok (.aload_n 0, 1) := by decide +kernel
theorem d_Bas_jumpByRegister_59 : decode b_Bas_jumpByRegister 59 = .ok (.getfield 18, 3) := by decide +kernel
theorem d_Bas_jumpByRegister_62 : decode b_Bas_jumpByRegister 62 = .ok (.aload_n 1, 1) := by decide +kernel
theorem d_Bas_jumpByRegister_63 : decode b_Bas_jumpByRegister 63 = .ok (.getfield 105, 3) := by decide +kernel
theorem d_Bas_jumpByRegister_66 : decode b_Bas_jumpByRegister 66 = .ok (.iload 4, 2) := by decide +kernel
theorem d_Bas_jumpByRegister_68 : decode b_Bas_jumpByRegister 68 = .ok (.invokevirtual 133, 3) := by decide +kernel
theorem d_Bas_jumpByRegister_71 : decode b_Bas_jumpByRegister 71 = .ok (.ireturn, 1) := by decide +kernel
theorem d_Bas_jumpByRegister_72 : decode b_Bas_jumpByRegister 72 = .ok (.iload_n 3, 1) := by decide +kernel
theorem d_Bas_jumpByRegister_73 : decode b_Bas_jumpByRegister 73 = .ok (.iconst 3, 1) := by decide +kernel
theorem d_Bas_jumpByRegister_74 : decode b_Bas_jumpByRegister 74 = .ok (.iand, 1) := by decide +kernel
theorem d_Bas_jumpByRegister_75 : decode b_Bas_jumpByRegister 75 = .ok (.ifCond .eq 13, 3) := by decide +kernel
theorem d_Bas_jumpByRegister_78 : decode b_Bas_jumpByRegister 78 = .ok (.aload_n 0, 1) := by decide +kernel
theorem d_Bas_jumpByRegister_79 : decode b_Bas_jumpByRegister 79 = .ok (.getfield 18, 3) := by decide +kernel
theorem d_Bas_jumpByRegister_82 : decode b_Bas_jumpByRegister 82 = .ok (.iconst 0, 1) := by decide +kernel
theorem d_Bas_jumpByRegister_83 : decode b_Bas_jumpByRegister 83 = .ok (.iload_n 3, 1) := by decide +kernel
theorem d_Bas_jumpByRegister_84 : decode b_Bas_jumpByRegister 84 = .ok (.invokevirtual 136, 3) := by decide +kernel
theorem d_Bas_jumpByRegister_87 : decode b_Bas_jumpByRegister 87 = .ok (.ireturn, 1) := by decide +kernel
theorem d_Bas_jumpByRegister_88 : decode b_Bas_jumpByRegister 88 = .ok (.aload_n 0, 1) := by decide +kernel
theorem d_Bas_jumpByRegister_89 : decode b_Bas_jumpByRegister 89 = .ok (.getfield 12, 3) := by decide +kernel
theorem d_Bas_jumpByRegister_92 : decode b_Bas_jumpByRegister 92 = .ok (.aload_n 2, 1) := by decide +kernel
theorem d_Bas_jumpByRegister_93 : decode b_Bas_jumpByRegister 93 = .ok (.invokevirtual 80, 3) := by decide +kernel
theorem d_Bas_jumpByRegister_96 : decode b_Bas_jumpByRegister 96 = .ok (.aload_n 0, 1) := by decide +kernel
theorem d_Bas_jumpByRegister_97 : decode b_Bas_jumpByRegister 97 = .ok (.getfield 18, 3) := by decide +kernel
theorem d_Bas_jumpByRegister_100 : decode b_Bas_jumpByRegister 100 = .ok (.aload_n 1, 1) := by decide +kernel
theorem d_Bas_jumpByRegister_101 : decode b_Bas_jumpByRegister 101 = .ok (.getfield 52, 3) := by decide +kernel
theorem d_Bas_jumpByRegister_104 : decode b_Bas_jumpByRegister 104 = .ok (.invokevirtual 124, 3) := by decide +kernel
theorem d_Bas_jumpByRegister_107 : decode b_Bas_jumpByRegister 107 = .ok (.aload_n 0, 1) := by decide +kernel
theorem d_Bas_jumpByRegister_108 : decode b_Bas_jumpByRegister 108 = .ok (.getfield 12, 3) := by decide +kernel
theorem d_Bas_jumpByRegister_111 : decode b_Bas_jumpByRegister 111 = .ok (.bipush 15, 2) := by decide +kernel
theorem d_Bas_jumpByRegister_113 : decode b_Bas_jumpByRegister 113 = .ok (.invokevirtual 143, 3) := by decide +kernel
theorem d_Bas_jumpByRegister_116 : decode b_Bas_jumpByRegister 116 = .ok (.aload_n 0, 1) := by decide +kernel
theorem d_Bas_jumpByRegister_117 : decode b_Bas_jumpByRegister 117 = .ok (.getfield 12, 3) := by decide +kernel
theorem d_Bas_jumpByRegister_120 : decode b_Bas_jumpByRegister 120 = .ok (.iload_n 3, 1) := by decide +kernel
theorem d_Bas_jumpByRegister_121 : decode b_Bas_jumpByRegister 121 = .ok (.invokevirtual 87, 3) := by decide +kernel
theorem d_Bas_jumpByRegister_124 : decode b_Bas_jumpByRegister 124 = .ok (.aload_n 0, 1) := by decide +kernel
theorem d_Bas_jumpByRegister_125 : decode b_Bas_jumpByRegister 125 = .ok (.getfield 18, 3) := by decide +kernel
theorem d_Bas_jumpByRegister_128 : decode b_Bas_jumpByRegister 128 = .ok (.getfield 77, 3) := by decide +kernel
theorem d_Bas_jumpByRegister_131 : decode b_Bas_jumpByRegister 131 = .ok (.aload_n 0, 1) := by decide +kernel
theorem d_Bas_jumpByRegister_132 : decode b_Bas_jumpByRegister 132 = .ok (.getfield 12, 3) := by decide +kernel
theorem d_Bas_jumpByRegister_135 : decode b_Bas_jumpByRegister 135 = .ok (.invokevirtual 80, 3) := by decide +kernel
theorem d_Bas_jumpByRegister_138 : decode b_Bas_jumpByRegister 138 = .ok (.bipush (-2), 2) := by decide +kernel
theorem d_Bas_jumpByRegister_140 : decode b_Bas_jumpByRegister 140 = .ok (.ireturn, 1) := by decide +kernel
theorem d_Bas_wrongOfJump_0 : decode b_Bas_wrongOfJump 0 = .ok (.aload_n 0, 1) := by decide +kernel
theorem d_Bas_wrongOfJump_1 : decode b_Bas_wrongOfJump 1 = .ok (.getfield 146, 3) := by decide +kernel
theorem d_Bas_wrongOfJump_4 : decode b_Bas_wrongOfJump 4 = .ok (.ifCond .ne 5, 3) := by decide +kernel
theorem d_Bas_wrongOfJump_7 : decode b_Bas_wrongOfJump 7 = .ok (.iconst 2, 1) := by decide +kernel
theorem d_Bas_wrongOfJump_8 : decode b_Bas_wrongOfJump 8 = .ok (.ireturn, 1) := by decide +kernel
theorem d_Bas_wrongOfJump_9 : decode b_Bas_wrongOfJump 9 = .ok (.aload_n 0, 1) := by decide +kernel
theorem d_Bas_wrongOfJump_10 : decode b_Bas_wrongOfJump 10 = .ok (.invokevirtual 150, 3) := by decide +kernel
theorem d_Bas_wrongOfJump_13 : decode b_Bas_wrongOfJump 13 = .ok (.bipush 14, 2) := by decide +kernel
theorem d_Bas_wrongOfJump_15 : decode b_Bas_wrongOfJump 15 = .ok (.if_icmp .lt 16, 3) := by decide +kernel
theorem d_Bas_wrongOfJump_18 : decode b_Bas_wrongOfJump 18 = .ok (.aload_n 0, 1) := by decide +kernel
theorem d_Bas_wrongOfJump_19 : decode b_Bas_wrongOfJump 19 = .ok (.invokevirtual 150, 3) := by decide +kernel
theorem d_Bas_wrongOfJump_22 : decode b_Bas_wrongOfJump 22 = .ok (.bipush 14, 2) := by decide +kernel
theorem d_Bas_wrongOfJump_24 : decode b_Bas_wrongOfJump 24 = .ok (.if_icmp .ne 9, 3) := by decide +kernel
theorem d_Bas_wrongOfJump_27 : decode b_Bas_wrongOfJump 27 = .ok (.iload_n 1, 1) := by decide +kernel
theorem d_Bas_wrongOfJump_28 : decode b_Bas_wrongOfJump 28 = .ok (.ifCond .eq 5, 3) := by decide +kernel
theorem d_Bas_wrongOfJump_31 : decode b_Bas_wrongOfJump 31 = .ok (.iconst 3, 1) := by decide +kernel
theorem d_Bas_wrongOfJump_32 : decode b_Bas_wrongOfJump 32 = .ok (.ireturn, 1) := by decide +kernel
theorem d_Bas_wrongOfJump_33 : decode b_Bas_wrongOfJump 33 = .ok (.aload_n 0, 1) := by decide +kernel
theorem d_Bas_wrongOfJump_34 : decode b_Bas_wrongOfJump 34 = .ok (.iconst 1, 1) := by decide +kernel
theorem d_Bas_wrongOfJump_35 : decode b_Bas_wrongOfJump 35 = .ok (.invokevirtual 154, 3) := by decide +kernel
theorem d_Bas_wrongOfJump_38 : decode b_Bas_wrongOfJump 38 = .ok (.ifCond .ne 6, 3) := by decide +kernel
theorem d_Bas_wrongOfJump_41 : decode b_Bas_wrongOfJump 41 = .ok (.bipush 17, 2) := by decide +kernel
theorem d_Bas_wrongOfJump_43 : decode b_Bas_wrongOfJump 43 = .ok (.ireturn, 1) := by decide +kernel
theorem d_Bas_wrongOfJump_44 : decode b_Bas_wrongOfJump 44 = .ok (.aload_n 0, 1) := by decide +kernel
theorem d_Bas_wrongOfJump_45 : decode b_Bas_wrongOfJump 45 = .ok (.iload_n 2, 1) := by decide +kernel
theorem d_Bas_wrongOfJump_46 : decode b_Bas_wrongOfJump 46 = .ok (.ldc2_w 127, 3) := by decide +kernel
theorem d_Bas_wrongOfJump_49 : decode b_Bas_wrongOfJump 49 = .ok (.invokevirtual 129, 3) := by decide +kernel
theorem d_Bas_wrongOfJump_52 : decode b_Bas_wrongOfJump 52 = .ok (.ifCond .eq 7, 3) := by decide +kernel
theorem d_Bas_wrongOfJump_55 : decode b_Bas_wrongOfJump 55 = .ok (.iconst 0, 1) := by decide +kernel
theorem d_Bas_wrongOfJump_56 : decode b_Bas_wrongOfJump 56 = .ok (.goto 4, 3) := by decide +kernel
theorem d_Bas_wrongOfJump_59 : decode b_Bas_wrongOfJump 59 = .ok (.iconst 1, 1) := by decide +kernel
theorem d_Bas_wrongOfJump_60 : decode b_Bas_wrongOfJump 60 = .ok (.ireturn, 1) := by decide +kernel
theorem d_Bas_jump_0 : decode b_Bas_jump 0 = .ok (.aload_n 0, 1) := by decide +kernel
theorem d_Bas_jump_1 : decode b_Bas_jump 1 = .ok (.getfield 18, 3) := by decide +kernel
theorem d_Bas_jump_4 : decode b_Bas_jump 4 = .ok (.getfield 77, 3) := by decide +kernel
theorem d_Bas_jump_7 : decode b_Bas_jump 7 = .ok (.getfield 84, 3) := by decide +kernel
theorem d_Bas_jump_10 : decode b_Bas_jump 10 = .ok (.aload_n 1, 1) := by decide +kernel
theorem d_Bas_jump_11 : decode b_Bas_jump 11 = .ok (.getfield 55, 3) := by decide +kernel
theorem d_Bas_jump_14 : decode b_Bas_jump 14 = .ok (.iadd, 1) := by decide +kernel
theorem d_Bas_jump_15 : decode b_Bas_jump 15 = .ok (.istore_n 2, 1) := by decide +kernel
theorem d_Bas_jump_16 : decode b_Bas_jump 16 = .ok (.aload_n 0, 1) := by decide +kernel
theorem d_Bas_jump_17 : decode b_Bas_jump 17 = .ok (.iload_n 2, 1) := by decide +kernel
theorem d_Bas_jump_18 : decode b_Bas_jump 18 = .ok (.invokevirtual 121, 3) := by decide +kernel
theorem d_Bas_jump_21 : decode b_Bas_jump 21 = .ok (.istore_n 3, 1) := by decide +kernel
theorem d_Bas_jump_22 : decode b_Bas_jump 22 = .ok (.iload_n 3, 1) := by decide +kernel
theorem d_Bas_jump_23 : decode b_Bas_jump 23 = .ok (.iconst (-1), 1) := by decide +kernel
theorem d_Bas_jump_24 : decode b_Bas_jump 24 = .ok (.if_icmp .ne 28, 3) := by decide +kernel
theorem d_Bas_jump_27 : decode b_Bas_jump 27 = .ok (.aload_n 0, 1) := by decide +kernel
theorem d_Bas_jump_28 : decode b_Bas_jump 28 = .ok (.getfield 18, 3) := by decide +kernel
theorem d_Bas_jump_31 : decode b_Bas_jump 31 = .ok (.aload_n 1, 1) := by decide +kernel
theorem d_Bas_jump_32 : decode b_Bas_jump 32 = .ok (.getfield 52, 3) := by decide +kernel
theorem d_Bas_jump_35 : decode b_Bas_jump 35 = .ok (.invokevirtual 124, 3) := by decide +kernel
theorem d_Bas_jump_38 : decode b_Bas_jump 38 = .ok (.aload_n 0, 1) := by decide +kernel
theorem d_Bas_jump_39 : decode b_Bas_jump 39 = .ok (.getfield 18, 3) := by decide +kernel
theorem d_Bas_jump_42 : decode b_Bas_jump 42 = .ok (.getfield 77, 3) := by decide +kernel
theorem d_Bas_jump_45 : decode b_Bas_jump 45 = .ok (.iload_n 2, 1) := by decide +kernel
theorem d_Bas_jump_46 : decode b_Bas_jump 46 = .ok (.invokevirtual 87, 3) := by decide +kernel
theorem d_Bas_jump_49 : decode b_Bas_jump 49 = .ok (.bipush (-2), 2) := by decide +kernel
theorem d_Bas_jump_51 : decode b_Bas_jump 51 = .ok (.ireturn, 1) := by decide +kernel
theorem d_Bas_jump_52 : decode b_Bas_jump 52 = .ok (.iload_n 3, 1) := by decide +kernel
theorem d_Bas_jump_53 : decode b_Bas_jump 53 = .ok (.ireturn, 1) := by decide +kernel
theorem d_Bas_system_0 : decode b_Bas_system 0 = .ok (.aload_n 1, 1) := by decide +kernel
theorem d_Bas_system_1 : decode b_Bas_system 1 = .ok (.getfield 221, 3) := by decide +kernel
theorem d_Bas_system_4 : decode b_Bas_system 4 = .ok (.bipush 115, 2) := by decide +kernel
theorem d_Bas_system_6 : decode b_Bas_system 6 = .ok (.if_icmp .ne 14, 3) := by decide +kernel
theorem d_Bas_system_9 : decode b_Bas_system 9 = .ok (.aload_n 0, 1) := by decide +kernel
theorem d_Bas_system_10 : decode b_Bas_system 10 = .ok (.getfield 18, 3) := by decide +kernel
theorem d_Bas_system_13 : decode b_Bas_system 13 = .ok (.bipush 11, 2) := by decide +kernel
theorem d_Bas_system_15 : decode b_Bas_system 15 = .ok (.iconst 0, 1) := by decide +kernel
theorem d_Bas_system_16 : decode b_Bas_system 16 = .ok (.invokevirtual 136, 3) := by decide +kernel
theorem d_Bas_system_19 : decode b_Bas_system 19 = .ok (.ireturn, 1) := by decide +kernel
theorem d_Bas_system_20 : decode b_Bas_system 20 = .ok (.aload_n 1, 1) := by decide +kernel
theorem d_Bas_system_21 : decode b_Bas_system 21 = .ok (.getfield 221, 3) := by decide +kernel
theorem d_Bas_system_24 : decode b_Bas_system 24 = .ok (.ldc 224, 2) := by decide +kernel
theorem d_Bas_system_26 : decode b_Bas_system 26 = .ok (.if_icmp .ne 13, 3) := by decide +kernel
theorem d_Bas_system_29 : decode b_Bas_system 29 = .ok (.aload_n 0, 1) := by decide +kernel
theorem d_Bas_system_30 : decode b_Bas_system 30 = .ok (.getfield 18, 3) := by decide +kernel
theorem d_Bas_system_33 : decode b_Bas_system 33 = .ok (.iconst 3, 1) := by decide +kernel
theorem d_Bas_system_34 : decode b_Bas_system 34 = .ok (.iconst 0, 1) := by decide +kernel
theorem d_Bas_system_35 : decode b_Bas_system 35 = .ok (.invokevirtual 136, 3) := by decide +kernel
theorem d_Bas_system_38 : decode b_Bas_system 38 = .ok (.ireturn, 1) := by decide +kernel
theorem d_Bas_system_39 : decode b_Bas_system 39 = .ok (.aload_n 1, 1) := by decide +kernel
theorem d_Bas_system_40 : decode b_Bas_system 40 = .ok (.getfield 221, 3) := by decide +kernel
theorem d_Bas_system_43 : decode b_Bas_system 43 = .ok (.bipush 20, 2) := by decide +kernel
theorem d_Bas_system_45 : decode b_Bas_system 45 = .ok (.iushr, 1) := by decide +kernel
theorem d_Bas_system_46 : decode b_Bas_system 46 = .ok (.istore_n 2, 1) := by decide +kernel
theorem d_Bas_system_47 : decode b_Bas_system 47 = .ok (.aload_n 1, 1) := by decide +kernel
theorem d_Bas_system_48 : decode b_Bas_system 48 = .ok (.getfield 32, 3) := by decide +kernel
theorem d_Bas_system_51 : decode b_Bas_system 51 = .ok (.iconst 3, 1) := by decide +kernel
theorem d_Bas_system_52 : decode b_Bas_system 52 = .ok (.iand, 1) := by decide +kernel
theorem d_Bas_system_53 : decode b_Bas_system 53 = .ok (.ifCond .eq 21, 3) := by decide +kernel
theorem d_Bas_system_56 : decode b_Bas_system 56 = .ok (.iload_n 2, 1) := by decide +kernel
theorem d_Bas_system_57 : decode b_Bas_system 57 = .ok (.sipush 834, 3) := by decide +kernel
theorem d_Bas_system_60 : decode b_Bas_system 60 = .ok (.if_icmp .eq 10, 3) := by decide +kernel
theorem d_Bas_system_63 : decode b_Bas_system 63 = .ok (.iload_n 2, 1) := by decide +kernel
theorem d_Bas_system_64 : decode b_Bas_system 64 = .ok (.sipush 835, 3) := by decide +kernel
theorem d_Bas_system_67 : decode b_Bas_system 67 = .ok (.if_icmp .ne 7, 3) := by decide +kernel
theorem d_Bas_system_70 : decode b_Bas_system 70 = .ok (.iconst 1, 1) := by decide +kernel
theorem d_Bas_system_71 : decode b_Bas_system 71 = .ok (.goto 4, 3) := by decide +kernel
theorem d_Bas_system_74 : decode b_Bas_system 74 = .ok (.iconst 0, 1) := by decide +kernel
theorem d_Bas_system_75 : decode b_Bas_system 75 = .ok (.istore_n 3, 1) := by decide +kernel
theorem d_Bas_system_76 : decode b_Bas_system 76 = .ok (.aload_n 1, 1) := by decide +kernel
theorem d_Bas_system_77 : decode b_Bas_system 77 = .ok (.getfield 221, 3) := by decide +kernel
theorem d_Bas_system_80 : decode b_Bas_system 80 = .ok (.ldc 225, 2) := by decide +kernel
theorem d_Bas_system_82 : decode b_Bas_system 82 = .ok (.if_icmp .eq 16, 3) := by decide +kernel
theorem d_Bas_system_85 : decode b_Bas_system 85 = .ok (.iload_n 3, 1) := by decide +kernel
theorem d_Bas_system_86 : decode b_Bas_system 86 = .ok (.ifCond .ne 12, 3) := by decide +kernel
theorem d_Bas_system_89 : decode b_Bas_system 89 = .ok (.aload_n 0, 1) := by decide +kernel
theorem d_Bas_system_90 : decode b_Bas_system 90 = .ok (.getfield 18, 3) := by decide +kernel
theorem d_Bas_system_93 : decode b_Bas_system 93 = .ok (.aload_n 1, 1) := by decide +kernel
theorem d_Bas_system_94 : decode b_Bas_system 94 = .ok (.invokevirtual 35, 3) := by decide +kernel
theorem d_Bas_system_97 : decode b_Bas_system 97 = .ok (.ireturn, 1) := by decide +kernel
theorem d_Bas_system_98 : decode b_Bas_system 98 = .ok (.aload_n 0, 1) := by decide +kernel
theorem d_Bas_system_99 : decode b_Bas_system 99 = .ok (.getfield 18, 3) := by decide +kernel
theorem d_Bas_system_102 : decode b_Bas_system 102 = .ok (.getfield 77, 3) := by decide +kernel
theorem d_Bas_system_105 : decode b_Bas_system 105 = .ok (.bipush 10, 2) := by decide +kernel
theorem d_Bas_system_107 : decode b_Bas_system 107 = .ok (.invokevirtual 154, 3) := by decide +kernel
theorem d_Bas_system_110 : decode b_Bas_system 110 = .ok (.ifCond .ne 15, 3) := by decide +kernel
theorem d_Bas_system_113 : decode b_Bas_system 113 = .ok (.aload_n 0, 1) := by decide +kernel
theorem d_Bas_system_114 : decode b_Bas_system 114 = .ok (.getfield 18, 3) := by decide +kernel
theorem d_Bas_system_117 : decode b_Bas_system 117 = .ok (.bipush 32, 2) := by decide +kernel
theorem d_Bas_system_119 : decode b_Bas_system 119 = .ok (.bipush 24, 2) := by decide +kernel
theorem d_Bas_system_121 : decode b_Bas_system 121 = .ok (.invokevirtual 133, 3) := by decide +kernel
theorem d_Bas_system_124 : decode b_Bas_system 124 = .ok (.ireturn, 1) := by decide +kernel
theorem d_Bas_system_125 : decode b_Bas_system 125 = .ok (.iload_n 3, 1) := by decide +kernel
theorem d_Bas_system_126 : decode b_Bas_system 126 = .ok (.ifCond .eq 23, 3) := by decide +kernel
theorem d_Bas_system_129 : decode b_Bas_system 129 = .ok (.aload_n 0, 1) := by decide +kernel
theorem d_Bas_system_130 : decode b_Bas_system 130 = .ok (.aload_n 1, 1) := by decide +kernel
theorem d_Bas_system_131 : decode b_Bas_system 131 = .ok (.iload_n 2, 1) := by decide +kernel
theorem d_Bas_system_132 : decode b_Bas_system 132 = .ok (.sipush 834, 3) := by decide +kernel
theorem d_Bas_system_135 : decode b_Bas_system 135 = .ok (.if_icmp .ne 7, 3) := by decide +kernel
theorem d_Bas_system_138 : decode b_Bas_system 138 = .ok (.iconst 1, 1) := by decide +kernel
theorem d_Bas_system_139 : decode b_Bas_system 139 = .ok (.goto 4, 3) := by decide +kernel
theorem d_Bas_system_142 : decode b_Bas_system 142 = .ok (.iconst 0, 1) := by decide +kernel
theorem d_Bas_system_143 : decode b_Bas_system 143 = .ok (.invokevirtual 226, 3) := by decide +kernel
theorem d_Bas_system_146 : decode b_Bas_system 146 = .ok (.goto 7, 3) := by decide +kernel
theorem d_Bas_system_149 : decode b_Bas_system 149 = .ok (.aload_n 0, 1) := by decide +kernel
theorem d_Bas_system_150 : decode b_Bas_system 150 = .ok (.invokevirtual 230, 3) := by decide +kernel
theorem d_Bas_system_153 : decode b_Bas_system 153 = .ok (.ireturn, 1) := by decide +kernel
theorem d_Bas_changeCsr_0 : decode b_Bas_changeCsr 0 = .ok (.iload_n 2, 1) := by decide +kernel
theorem d_Bas_changeCsr_1 : decode b_Bas_changeCsr 1 = .ok (.ifCond .eq 13, 3) := by decide +kernel
theorem d_Bas_changeCsr_4 : decode b_Bas_changeCsr 4 = .ok (.aload_n 0, 1) := by decide +kernel
theorem d_Bas_changeCsr_5 : decode b_Bas_changeCsr 5 = .ok (.getfield 18, 3) := by decide +kernel
theorem d_Bas_changeCsr_8 : decode b_Bas_changeCsr 8 = .ok (.getfield 233, 3) := by decide +kernel
theorem d_Bas_changeCsr_11 : decode b_Bas_changeCsr 11 = .ok (.goto 10, 3) := by decide +kernel
theorem d_Bas_changeCsr_14 : decode b_Bas_changeCsr 14 = .ok (.aload_n 0, 1) := by decide +kernel
theorem d_Bas_changeCsr_15 : decode b_Bas_changeCsr 15 = .ok (.getfield 18, 3) := by decide +kernel
theorem d_Bas_changeCsr_18 : decode b_Bas_changeCsr 18 = .ok (.getfield 236, 3) := by decide +kernel
theorem d_Bas_changeCsr_21 : decode b_Bas_changeCsr 21 = .ok (.istore_n 3, 1) := by decide +kernel
theorem d_Bas_changeCsr_22 : decode b_Bas_changeCsr 22 = .ok (.aload_n 1, 1) := by decide +kernel
theorem d_Bas_changeCsr_23 : decode b_Bas_changeCsr 23 = .ok (.getfield 32, 3) := by decide +kernel
theorem d_Bas_changeCsr_26 : decode b_Bas_changeCsr 26 = .ok (.iconst 4, 1) := by decide +kernel
theorem d_Bas_changeCsr_27 : decode b_Bas_changeCsr 27 = .ok (.if_icmp .lt 10, 3) := by decide +kernel
theorem d_Bas_changeCsr_30 : decode b_Bas_changeCsr 30 = .ok (.aload_n 1, 1) := by decide +kernel
theorem d_Bas_changeCsr_31 : decode b_Bas_changeCsr 31 = .ok (.getfield 105, 3) := by decide +kernel
theorem d_Bas_changeCsr_34 : decode b_Bas_changeCsr 34 = .ok (.goto 18, 3) := by decide +kernel
theorem d_Bas_changeCsr_37 : decode b_Bas_changeCsr 37 = .ok (.aload_n 0, 1) := by decide +kernel
theorem d_Bas_changeCsr_38 : decode b_Bas_changeCsr 38 = .ok (.getfield 18, 3) := by decide +kernel
theorem d_Bas_changeCsr_41 : decode b_Bas_changeCsr 41 = .ok (.getfield 98, 3) := by decide +kernel
theorem d_Bas_changeCsr_44 : decode b_Bas_changeCsr 44 = .ok (.aload_n 1, 1) := by decide +kernel
theorem d_Bas_changeCsr_45 : decode b_Bas_changeCsr 45 = .ok (.getfield 105, 3) := by decide +kernel
theorem d_Bas_changeCsr_48 : decode b_Bas_changeCsr 48 = .ok (.aaload, 1) := by decide +kernel
theorem d_Bas_changeCsr_49 : decode b_Bas_changeCsr 49 = .ok (.getfield 84, 3) := by decide +kernel
theorem d_Bas_changeCsr_52 : decode b_Bas_changeCsr 52 = .ok (.istore 4, 2) := by decide +kernel
theorem d_Bas_changeCsr_54 : decode b_Bas_changeCsr 54 = .ok (.iload 4, 2) := by decide +kernel
theorem d_Bas_changeCsr_56 : decode b_Bas_changeCsr 56 = .ok (.istore 5, 2) := by decide +kernel
theorem d_Bas_changeCsr_58 : decode b_Bas_changeCsr 58 = .ok (.aload_n 1, 1) := by decide +kernel
theorem d_Bas_changeCsr_59 : decode b_Bas_changeCsr 59 = .ok (.getfield 32, 3) := by decide +kernel
theorem d_Bas_changeCsr_62 : decode b_Bas_changeCsr 62 = .ok (.iconst 3, 1) := by decide +kernel
theorem d_Bas_changeCsr_63 : decode b_Bas_changeCsr 63 = .ok (.iand, 1) := by decide +kernel
theorem d_Bas_changeCsr_64 : decode b_Bas_changeCsr 64 = .ok (.iconst 2, 1) := by decide +kernel
theorem d_Bas_changeCsr_65 : decode b_Bas_changeCsr 65 = .ok (.if_icmp .ne 12, 3) := by decide +kernel
theorem d_Bas_changeCsr_68 : decode b_Bas_changeCsr 68 = .ok (.iload_n 3, 1) := by decide +kernel
theorem d_Bas_changeCsr_69 : decode b_Bas_changeCsr 69 = .ok (.iload 4, 2) := by decide +kernel
theorem d_Bas_changeCsr_71 : decode b_Bas_changeCsr 71 = .ok (.ior, 1) := by decide +kernel
theorem d_Bas_changeCsr_72 : decode b_Bas_changeCsr 72 = .ok (.istore 5, 2) := by decide +kernel
theorem d_Bas_changeCsr_74 : decode b_Bas_changeCsr 74 = .ok (.goto 21, 3) := by decide +kernel
theorem d_Bas_changeCsr_77 : decode b_Bas_changeCsr 77 = .ok (.aload_n 1, 1) := by decide +kernel
theorem d_Bas_changeCsr_78 : decode b_Bas_changeCsr 78 = .ok (.getfield 32, 3) := by decide +kernel
theorem d_Bas_changeCsr_81 : decode b_Bas_changeCsr 81 = .ok (.iconst 3, 1) := by decide +kernel
theorem d_Bas_changeCsr_82 : decode b_Bas_changeCsr 82 = .ok (.iand, 1) := by decide +kernel
theorem d_Bas_changeCsr_83 : decode b_Bas_changeCsr 83 = .ok (.iconst 3, 1) := by decide +kernel
theorem d_Bas_changeCsr_84 : decode b_Bas_changeCsr 84 = .ok (.if_icmp .ne 11, 3) := by decide +kernel
theorem d_Bas_changeCsr_87 : decode b_Bas_changeCsr 87 = .ok (.iload_n 3, 1) := by decide +kernel
theorem d_Bas_changeCsr_88 : decode b_Bas_changeCsr 88 = .ok (.iload 4, 2) := by decide +kernel
theorem d_Bas_changeCsr_90 : decode b_Bas_changeCsr 90 = .ok (.iconst (-1), 1) := by decide +kernel
theorem d_Bas_changeCsr_91 : decode b_Bas_changeCsr 91 = .ok (.ixor, 1) := by decide +kernel
theorem d_Bas_changeCsr_92 : decode b_Bas_changeCsr 92 = .ok (.iand, 1) := by decide +kernel
theorem d_Bas_changeCsr_93 : decode b_Bas_changeCsr 93 = .ok (.istore 5, 2) := by decide +kernel
theorem d_Bas_changeCsr_95 : decode b_Bas_changeCsr 95 = .ok (.iload_n 2, 1) := by decide +kernel
theorem d_Bas_changeCsr_96 : decode b_Bas_changeCsr 96 = .ok (.ifCond .eq 15, 3) := by decide +kernel
theorem d_Bas_changeCsr_99 : decode b_Bas_changeCsr 99 = .ok (.aload_n 0, 1) := by decide +kernel
theorem d_Bas_changeCsr_100 : decode b_Bas_changeCsr 100 = .ok (.getfield 18, 3) := by decide +kernel
theorem d_Bas_changeCsr_103 : decode b_Bas_changeCsr 103 = .ok (.iload 5, 2) := by decide +kernel
theorem d_Bas_changeCsr_105 : decode b_Bas_changeCsr 105 = .ok (.putfield 233, 3) := by decide +kernel
theorem d_Bas_changeCsr_108 : decode b_Bas_changeCsr 108 = .ok (.goto 12, 3) := by decide +kernel
theorem d_Bas_changeCsr_111 : decode b_Bas_changeCsr 111 = .ok (.aload_n 0, 1) := by decide +kernel
theorem d_Bas_changeCsr_112 : decode b_Bas_changeCsr 112 = .ok (.getfield 18, 3) := by decide +kernel
theorem d_Bas_changeCsr_115 : decode b_Bas_changeCsr 115 = .ok (.iload 5, 2) := by decide +kernel
theorem d_Bas_changeCsr_117 : decode b_Bas_changeCsr 117 = .ok (.putfield 236, 3) := by decide +kernel
theorem d_Bas_changeCsr_120 : decode b_Bas_changeCsr 120 = .ok (.aload_n 0, 1) := by decide +kernel
theorem d_Bas_changeCsr_121 : decode b_Bas_changeCsr 121 = .ok (.getfield 18, 3) := by decide +kernel
theorem d_Bas_changeCsr_124 : decode b_Bas_changeCsr 124 = .ok (.aload_n 1, 1) := by decide +kernel
theorem d_Bas_changeCsr_125 : decode b_Bas_changeCsr 125 = .ok (.getfield 52, 3) := by decide +kernel
theorem d_Bas_changeCsr_128 : decode b_Bas_changeCsr 128 = .ok (.iload_n 3, 1) := by decide +kernel
theorem d_Bas_changeCsr_129 : decode b_Bas_changeCsr 129 = .ok (.invokevirtual 58, 3) := by decide +kernel
theorem d_Bas_changeCsr_132 : decode b_Bas_changeCsr 132 = .ok (.ireturn, 1) := by decide +kernel
theorem d_Bas_returnFromTrap_0 : decode b_Bas_returnFromTrap 0 = .ok (.aload_n 0, 1) := by decide +kernel
theorem d_Bas_returnFromTrap_1 : decode b_Bas_returnFromTrap 1 = .ok (.getfield 18, 3) := by decide +kernel
theorem d_Bas_returnFromTrap_4 : decode b_Bas_returnFromTrap 4 = .ok (.getfield 77, 3) := by decide +kernel
theorem d_Bas_returnFromTrap_7 : decode b_Bas_returnFromTrap 7 = .ok (.aload_n 0, 1) := by decide +kernel
theorem d_Bas_returnFromTrap_8 : decode b_Bas_returnFromTrap 8 = .ok (.getfield 18, 3) := by decide +kernel
theorem d_Bas_returnFromTrap_11 : decode b_Bas_returnFromTrap 11 = .ok (.getfield 98, 3) := by decide +kernel
theorem d_Bas_returnFromTrap_14 : decode b_Bas_returnFromTrap 14 = .ok (.bipush 36, 2) := by decide +kernel
theorem d_Bas_returnFromTrap_16 : decode b_Bas_returnFromTrap 16 = .ok (.aaload, 1) := by decide +kernel
theorem d_Bas_returnFromTrap_17 : decode b_Bas_returnFromTrap 17 = .ok (.invokevirtual 80, 3) := by decide +kernel
theorem d_Bas_returnFromTrap_20 : decode b_Bas_returnFromTrap 20 = .ok (.aload_n 0, 1) := by decide +kernel
theorem d_Bas_returnFromTrap_21 : decode b_Bas_returnFromTrap 21 = .ok (.getfield 18, 3) := by decide +kernel
theorem d_Bas_returnFromTrap_24 : decode b_Bas_returnFromTrap 24 = .ok (.getfield 77, 3) := by decide +kernel
theorem d_Bas_returnFromTrap_27 : decode b_Bas_returnFromTrap 27 = .ok (.invokevirtual 150, 3) := by decide +kernel
theorem d_Bas_returnFromTrap_30 : decode b_Bas_returnFromTrap 30 = .ok (.bipush 14, 2) := by decide +kernel
theorem d_Bas_returnFromTrap_32 : decode b_Bas_returnFromTrap 32 = .ok (.if_icmp .ne 15, 3) := by decide +kernel
theorem d_Bas_returnFromTrap_35 : decode b_Bas_returnFromTrap 35 = .ok (.aload_n 0, 1) := by decide +kernel
theorem d_Bas_returnFromTrap_36 : decode b_Bas_returnFromTrap 36 = .ok (.getfield 18, 3) := by decide +kernel
theorem d_Bas_returnFromTrap_39 : decode b_Bas_returnFromTrap 39 = .ok (.getfield 77, 3) := by decide +kernel
theorem d_Bas_returnFromTrap_42 : decode b_Bas_returnFromTrap 42 = .ok (.bipush 15, 2) := by decide +kernel
theorem d_Bas_returnFromTrap_44 : decode b_Bas_returnFromTrap 44 = .ok (.invokevirtual 143, 3) := by decide +kernel
theorem d_Bas_returnFromTrap_47 : decode b_Bas_returnFromTrap 47 = .ok (.bipush (-2), 2) := by decide +kernel
theorem d_Bas_returnFromTrap_49 : decode b_Bas_returnFromTrap 49 = .ok (.ireturn, 1) := by decide +kernel
