theorem d_Cun_init_0 : decode b_Cun_init 0 = .ok (.aload_n 0, 1) := by decide +kernel
theorem d_Cun_init_1 : decode b_Cun_init 1 = .ok (.invokespecial 3, 3) := by decide +kernel
theorem d_Cun_init_4 : decode b_Cun_init 4 = .ok (.aload_n 0, 1) := by decide +kernel
theorem d_Cun_init_5 : decode b_Cun_init 5 = .ok (.new 9, 3) := by decide +kernel
theorem d_Cun_init_8 : decode b_Cun_init 8 = .ok (.dup, 1) := by decide +kernel
theorem d_Cun_init_9 : decode b_Cun_init 9 = .ok (.invokespecial 11, 3) := by decide +kernel
theorem d_Cun_init_12 : decode b_Cun_init 12 = .ok (.putfield 12, 3) := by decide +kernel
theorem d_Cun_init_15 : decode b_Cun_init 15 = .ok (.aload_n 0, 1) := by decide +kernel
theorem d_Cun_init_16 : decode b_Cun_init 16 = .ok (.aload_n 1, 1) := by decide +kernel
theorem d_Cun_init_17 : decode b_Cun_init 17 = .ok (.putfield 18, 3) := by decide +kernel
theorem d_Cun_init_20 : decode b_Cun_init 20 = .ok (.return_, 1) := by decide +kernel
theorem d_Cun_execute_0 : decode b_Cun_execute 0 = .ok (.aload_n 0, 1) := by decide +kernel
theorem d_Cun_execute_1 : decode b_Cun_execute 1 = .ok (.getfield 18, 3) := by decide +kernel
theorem d_Cun_execute_4 : decode b_Cun_execute 4 = .ok (.getfield 22, 3) := by decide +kernel
theorem d_Cun_execute_7 : decode b_Cun_execute 7 = .ok (.aload_n 1, 1) := by decide +kernel
theorem d_Cun_execute_8 : decode b_Cun_execute 8 = .ok (.getfield 28, 3) := by decide +kernel
theorem d_Cun_execute_11 : decode b_Cun_execute 11 = .ok (.aaload, 1) := by decide +kernel
theorem d_Cun_execute_12 : decode b_Cun_execute 12 = .ok (.astore_n 2, 1) := by decide +kernel
theorem d_Cun_execute_13 : decode b_Cun_execute 13 = .ok (.aload_n 1, 1) := by decide +kernel
theorem d_Cun_execute_14 : decode b_Cun_execute 14 = .ok (.getfield 34, 3) := by decide +kernel
theorem d_Cun_execute_17 : decode b_Cun_execute 17 = .ok (.tableswitch 79 0 2 #[27, 46, 62], 27) := by decide +kernel
theorem d_Cun_execute_44 : decode b_Cun_execute 44 = .ok (.aload_n 0, 1) := by decide +kernel
theorem d_Cun_execute_45 : decode b_Cun_execute 45 = .ok (.aload_n 1, 1) := by decide +kernel
theorem d_Cun_execute_46 : decode b_Cun_execute 46 = .ok (.aload_n 2, 1) := by decide +kernel
theorem d_Cun_execute_47 : decode b_Cun_execute 47 = .ok (.aload_n 0, 1) := by decide +kernel
theorem d_Cun_execute_48 : decode b_Cun_execute 48 = .ok (.getfield 18, 3) := by decide +kernel
theorem d_Cun_execute_51 : decode b_Cun_execute 51 = .ok (.getfield 22, 3) := by decide +kernel
theorem d_Cun_execute_54 : decode b_Cun_execute 54 = .ok (.aload_n 1, 1) := by decide +kernel
theorem d_Cun_execute_55 : decode b_Cun_execute 55 = .ok (.getfield 37, 3) := by decide +kernel
theorem d_Cun_execute_58 : decode b_Cun_execute 58 = .ok (.aaload, 1) := by decide +kernel
theorem d_Cun_execute_59 : decode b_Cun_execute 59 = .ok (.invokevirtual 40, 3) := by decide +kernel
theorem d_Cun_execute_62 : decode b_Cun_execute 62 = .ok (.ireturn, 1) := by decide +kernel
theorem d_Cun_execute_63 : decode b_Cun_execute 63 = .ok (.aload_n 0, 1) := by decide +kernel
theorem d_Cun_execute_64 : decode b_Cun_execute 64 = .ok (.aload_n 1, 1) := by decide +kernel
theorem d_Cun_execute_65 : decode b_Cun_execute 65 = .ok (.aload_n 2, 1) := by decide +kernel
theorem d_Cun_execute_66 : decode b_Cun_execute 66 = .ok (.aload_n 2, 1) := by decide +kernel
theorem d_Cun_execute_67 : decode b_Cun_execute 67 = .ok (.getfield 44, 3) := by decide +kernel
theorem d_Cun_execute_70 : decode b_Cun_execute 70 = .ok (.aload_n 1, 1) := by decide +kernel
theorem d_Cun_execute_71 : decode b_Cun_execute 71 = .ok (.getfield 49, 3) := by decide +kernel
theorem d_Cun_execute_74 : decode b_Cun_execute 74 = .ok (.iadd, 1) := by decide +kernel
theorem d_Cun_execute_75 : decode b_Cun_execute 75 = .ok (.invokevirtual 52, 3) := by decide +kernel
theorem d_Cun_execute_78 : decode b_Cun_execute 78 = .ok (.ireturn, 1) := by decide +kernel
theorem d_Cun_execute_79 : decode b_Cun_execute 79 = .ok (.aload_n 0, 1) := by decide +kernel
theorem d_Cun_execute_80 : decode b_Cun_execute 80 = .ok (.aload_n 1, 1) := by decide +kernel
theorem d_Cun_execute_81 : decode b_Cun_execute 81 = .ok (.aload_n 2, 1) := by decide +kernel
theorem d_Cun_execute_82 : decode b_Cun_execute 82 = .ok (.aload_n 1, 1) := by decide +kernel
theorem d_Cun_execute_83 : decode b_Cun_execute 83 = .ok (.getfield 49, 3) := by decide +kernel
theorem d_Cun_execute_86 : decode b_Cun_execute 86 = .ok (.sipush 4095, 3) := by decide +kernel
theorem d_Cun_execute_89 : decode b_Cun_execute 89 = .ok (.iand, 1) := by decide +kernel
theorem d_Cun_execute_90 : decode b_Cun_execute 90 = .ok (.i2l, 1) := by decide +kernel
theorem d_Cun_execute_91 : decode b_Cun_execute 91 = .ok (.iconst 0, 1) := by decide +kernel
theorem d_Cun_execute_92 : decode b_Cun_execute 92 = .ok (.invokevirtual 56, 3) := by decide +kernel
theorem d_Cun_execute_95 : decode b_Cun_execute 95 = .ok (.ireturn, 1) := by decide +kernel
theorem d_Cun_execute_96 : decode b_Cun_execute 96 = .ok (.aload_n 0, 1) := by decide +kernel
theorem d_Cun_execute_97 : decode b_Cun_execute 97 = .ok (.getfield 18, 3) := by decide +kernel
theorem d_Cun_execute_100 : decode b_Cun_execute 100 = .ok (.aload_n 1, 1) := by decide +kernel
theorem d_Cun_execute_101 : decode b_Cun_execute 101 = .ok (.invokevirtual 60, 3) := by decide +kernel
theorem d_Cun_execute_104 : decode b_Cun_execute 104 = .ok (.ireturn, 1) := by decide +kernel
theorem d_Cun_byNumber_0 : decode b_Cun_byNumber 0 = .ok (.aload_n 1, 1) := by decide +kernel
theorem d_Cun_byNumber_1 : decode b_Cun_byNumber 1 = .ok (.getfield 64, 3) := by decide +kernel
theorem d_Cun_byNumber_4 : decode b_Cun_byNumber 4 = .ok (.lookupswitch 354 #[(1, 132), (8, 139), (9, 156), (11, 173), (12, 181), (13, 189), (15, 200), (16, 217), (17, 228), (20, 244), (22, 265), (29, 276), (32, 284), (126, 320), (127, 347)], 132) := by decide +kernel
theorem d_Cun_byNumber_136 : decode b_Cun_byNumber 136 = .ok (.aload_n 0, 1) := by decide +kernel
theorem d_Cun_byNumber_137 : decode b_Cun_byNumber 137 = .ok (.aload_n 1, 1) := by decide +kernel
theorem d_Cun_byNumber_138 : decode b_Cun_byNumber 138 = .ok (.aload_n 2, 1) := by decide +kernel
theorem d_Cun_byNumber_139 : decode b_Cun_byNumber 139 = .ok (.invokevirtual 67, 3) := by decide +kernel
theorem d_Cun_byNumber_142 : decode b_Cun_byNumber 142 = .ok (.ireturn, 1) := by decide +kernel
theorem d_Cun_byNumber_143 : decode b_Cun_byNumber 143 = .ok (.aload_n 0, 1) := by decide +kernel
theorem d_Cun_byNumber_144 : decode b_Cun_byNumber 144 = .ok (.aload_n 1, 1) := by decide +kernel
theorem d_Cun_byNumber_145 : decode b_Cun_byNumber 145 = .ok (.aload_n 2, 1) := by decide +kernel
theorem d_Cun_byNumber_146 : decode b_Cun_byNumber 146 = .ok (.aload_n 3, 1) := by decide +kernel
theorem d_Cun_byNumber_147 : decode b_Cun_byNumber 147 = .ok (.getfield 44, 3) := by decide +kernel
theorem d_Cun_byNumber_150 : decode b_Cun_byNumber 150 = .ok (.i2l, 1) := by decide +kernel
theorem d_Cun_byNumber_151 : decode b_Cun_byNumber 151 = .ok (.ldc2_w 71, 3) := by decide +kernel
theorem d_Cun_byNumber_154 : decode b_Cun_byNumber 154 = .ok (.land, 1) := by decide +kernel
theorem d_Cun_byNumber_155 : decode b_Cun_byNumber 155 = .ok (.iconst 0, 1) := by decide +kernel
theorem d_Cun_byNumber_156 : decode b_Cun_byNumber 156 = .ok (.invokevirtual 56, 3) := by decide +kernel
theorem d_Cun_byNumber_159 : decode b_Cun_byNumber 159 = .ok (.ireturn, 1) := by decide +kernel
theorem d_Cun_byNumber_160 : decode b_Cun_byNumber 160 = .ok (.aload_n 0, 1) := by decide +kernel
theorem d_Cun_byNumber_161 : decode b_Cun_byNumber 161 = .ok (.aload_n 1, 1) := by decide +kernel
theorem d_Cun_byNumber_162 : decode b_Cun_byNumber 162 = .ok (.aload_n 2, 1) := by decide +kernel
theorem d_Cun_byNumber_163 : decode b_Cun_byNumber 163 = .ok (.aload_n 3, 1) := by decide +kernel
theorem d_Cun_byNumber_164 : decode b_Cun_byNumber 164 = .ok (.getfield 44, 3) := by decide +kernel
theorem d_Cun_byNumber_167 : decode b_Cun_byNumber 167 = .ok (.i2l, 1) := by decide +kernel
theorem d_Cun_byNumber_168 : decode b_Cun_byNumber 168 = .ok (.ldc2_w 71, 3) := by decide +kernel
theorem d_Cun_byNumber_171 : decode b_Cun_byNumber 171 = .ok (.land, 1) := by decide +kernel
theorem d_Cun_byNumber_172 : decode b_Cun_byNumber 172 = .ok (.iconst 1, 1) := by decide +kernel
theorem d_Cun_byNumber_173 : decode b_Cun_byNumber 173 = .ok (.invokevirtual 56, 3) := by decide +kernel
theorem d_Cun_byNumber_176 : decode b_Cun_byNumber 176 = .ok (.ireturn, 1) := by decide +kernel
theorem d_Cun_byNumber_177 : decode b_Cun_byNumber 177 = .ok (.aload_n 0, 1) := by decide +kernel
theorem d_Cun_byNumber_178 : decode b_Cun_byNumber 178 = .ok (.aload_n 1, 1) := by decide +kernel
theorem d_Cun_byNumber_179 : decode b_Cun_byNumber 179 = .ok (.aload_n 2, 1) := by decide +kernel
theorem d_Cun_byNumber_180 : decode b_Cun_byNumber 180 = .ok (.aload_n 3, 1) := by decide +kernel
theorem d_Cun_byNumber_181 : decode b_Cun_byNumber 181 = .ok (.invokevirtual 73, 3) := by decide +kernel
theorem d_Cun_byNumber_184 : decode b_Cun_byNumber 184 = .ok (.ireturn, 1) := by decide +kernel
theorem d_Cun_byNumber_185 : decode b_Cun_byNumber 185 = .ok (.aload_n 0, 1) := by decide +kernel
theorem d_Cun_byNumber_186 : decode b_Cun_byNumber 186 = .ok (.aload_n 1, 1) := by decide +kernel
theorem d_Cun_byNumber_187 : decode b_Cun_byNumber 187 = .ok (.aload_n 2, 1) := by decide +kernel
theorem d_Cun_byNumber_188 : decode b_Cun_byNumber 188 = .ok (.aload_n 3, 1) := by decide +kernel
theorem d_Cun_byNumber_189 : decode b_Cun_byNumber 189 = .ok (.invokevirtual 76, 3) := by decide +kernel
theorem d_Cun_byNumber_192 : decode b_Cun_byNumber 192 = .ok (.ireturn, 1) := by decide +kernel
theorem d_Cun_byNumber_193 : decode b_Cun_byNumber 193 = .ok (.aload_n 0, 1) := by decide +kernel
theorem d_Cun_byNumber_194 : decode b_Cun_byNumber 194 = .ok (.aload_n 1, 1) := by decide +kernel
theorem d_Cun_byNumber_195 : decode b_Cun_byNumber 195 = .ok (.aload_n 2, 1) := by decide +kernel
theorem d_Cun_byNumber_196 : decode b_Cun_byNumber 196 = .ok (.aload_n 3, 1) := by decide +kernel
theorem d_Cun_byNumber_197 : decode b_Cun_byNumber 197 = .ok (.getfield 44, 3) := by decide +kernel
theorem d_Cun_byNumber_200 : decode b_Cun_byNumber 200 = .ok (.invokevirtual 79, 3) := by decide +kernel
theorem d_Cun_byNumber_203 : decode b_Cun_byNumber 203 = .ok (.ireturn, 1) := by decide +kernel
theorem d_Cun_byNumber_204 : decode b_Cun_byNumber 204 = .ok (.aload_n 0, 1) := by decide +kernel
theorem d_Cun_byNumber_205 : decode b_Cun_byNumber 205 = .ok (.aload_n 1, 1) := by decide +kernel
theorem d_Cun_byNumber_206 : decode b_Cun_byNumber 206 = .ok (.aload_n 2, 1) := by decide +kernel
theorem d_Cun_byNumber_207 : decode b_Cun_byNumber 207 = .ok (.aload_n 2, 1) := by decide +kernel
theorem d_Cun_byNumber_208 : decode b_Cun_byNumber 208 = .ok (.getfield 82, 3) := by decide +kernel
theorem d_Cun_byNumber_211 : decode b_Cun_byNumber 211 = .ok (.l2i, 1) := by decide +kernel
theorem d_Cun_byNumber_212 : decode b_Cun_byNumber 212 = .ok (.aload_n 3, 1) := by decide +kernel
theorem d_Cun_byNumber_213 : decode b_Cun_byNumber 213 = .ok (.getfield 44, 3) := by decide +kernel
theorem d_Cun_byNumber_216 : decode b_Cun_byNumber 216 = .ok (.iadd, 1) := by decide +kernel
theorem d_Cun_byNumber_217 : decode b_Cun_byNumber 217 = .ok (.invokevirtual 52, 3) := by decide +kernel
theorem d_Cun_byNumber_220 : decode b_Cun_byNumber 220 = .ok (.ireturn, 1) := by decide +kernel
theorem d_Cun_byNumber_221 : decode b_Cun_byNumber 221 = .ok (.aload_n 0, 1) := by decide +kernel
theorem d_Cun_byNumber_222 : decode b_Cun_byNumber 222 = .ok (.aload_n 1, 1) := by decide +kernel
theorem d_Cun_byNumber_223 : decode b_Cun_byNumber 223 = .ok (.aload_n 2, 1) := by decide +kernel
theorem d_Cun_byNumber_224 : decode b_Cun_byNumber 224 = .ok (.aload_n 3, 1) := by decide +kernel
theorem d_Cun_byNumber_225 : decode b_Cun_byNumber 225 = .ok (.getfield 44, 3) := by decide +kernel
theorem d_Cun_byNumber_228 : decode b_Cun_byNumber 228 = .ok (.invokevirtual 52, 3) := by decide +kernel
theorem d_Cun_byNumber_231 : decode b_Cun_byNumber 231 = .ok (.ireturn, 1) := by decide +kernel
theorem d_Cun_byNumber_232 : decode b_Cun_byNumber 232 = .ok (.aload_n 0, 1) := by decide +kernel
theorem d_Cun_byNumber_233 : decode b_Cun_byNumber 233 = .ok (.aload_n 1, 1) := by decide +kernel
theorem d_Cun_byNumber_234 : decode b_Cun_byNumber 234 = .ok (.aload_n 2, 1) := by decide +kernel
theorem d_Cun_byNumber_235 : decode b_Cun_byNumber 235 = .ok (.aload_n 2, 1) := by decide +kernel
theorem d_Cun_byNumber_236 : decode b_Cun_byNumber 236 = .ok (.getfield 44, 3) := by decide +kernel
theorem d_Cun_byNumber_239 : decode b_Cun_byNumber 239 = .ok (.aload_n 3, 1) := by decide +kernel
theorem d_Cun_byNumber_240 : decode b_Cun_byNumber 240 = .ok (.getfield 44, 3) := by decide +kernel
theorem d_Cun_byNumber_243 : decode b_Cun_byNumber 243 = .ok (.iadd, 1) := by decide +kernel
theorem d_Cun_byNumber_244 : decode b_Cun_byNumber 244 = .ok (.invokevirtual 52, 3) := by decide +kernel
theorem d_Cun_byNumber_247 : decode b_Cun_byNumber 247 = .ok (.ireturn, 1) := by decide +kernel
theorem d_Cun_byNumber_248 : decode b_Cun_byNumber 248 = .ok (.aload_n 0, 1) := by decide +kernel
theorem d_Cun_byNumber_249 : decode b_Cun_byNumber 249 = .ok (.getfield 18, 3) := by decide +kernel
theorem d_Cun_byNumber_252 : decode b_Cun_byNumber 252 = .ok (.aload_n 1, 1) := by decide +kernel
theorem d_Cun_byNumber_253 : decode b_Cun_byNumber 253 = .ok (.getfield 86, 3) := by decide +kernel
theorem d_Cun_byNumber_256 : decode b_Cun_byNumber 256 = .ok (.aload_n 2, 1) := by decide +kernel
theorem d_Cun_byNumber_257 : decode b_Cun_byNumber 257 = .ok (.getfield 44, 3) := by decide +kernel
theorem d_Cun_byNumber_260 : decode b_Cun_byNumber 260 = .ok (.aload_n 3, 1) := by decide +kernel
theorem d_Cun_byNumber_261 : decode b_Cun_byNumber 261 = .ok (.getfield 44, 3) := by decide +kernel
theorem d_Cun_byNumber_264 : decode b_Cun_byNumber 264 = .ok (.isub, 1) := by decide +kernel
theorem d_Cun_byNumber_265 : decode b_Cun_byNumber 265 = .ok (.invokevirtual 89, 3) := by decide +kernel
theorem d_Cun_byNumber_268 : decode b_Cun_byNumber 268 = .ok (.ireturn, 1) := by decide +kernel
theorem d_Cun_byNumber_269 : decode b_Cun_byNumber 269 = .ok (.aload_n 0, 1) := by decide +kernel
theorem d_Cun_byNumber_270 : decode b_Cun_byNumber 270 = .ok (.aload_n 1, 1) := by decide +kernel
theorem d_Cun_byNumber_271 : decode b_Cun_byNumber 271 = .ok (.aload_n 2, 1) := by decide +kernel
theorem d_Cun_byNumber_272 : decode b_Cun_byNumber 272 = .ok (.aload_n 3, 1) := by decide +kernel
theorem d_Cun_byNumber_273 : decode b_Cun_byNumber 273 = .ok (.getfield 44, 3) := by decide +kernel
theorem d_Cun_byNumber_276 : decode b_Cun_byNumber 276 = .ok (.invokevirtual 93, 3) := by decide +kernel
theorem d_Cun_byNumber_279 : decode b_Cun_byNumber 279 = .ok (.ireturn, 1) := by decide +kernel
theorem d_Cun_byNumber_280 : decode b_Cun_byNumber 280 = .ok (.aload_n 0, 1) := by decide +kernel
theorem d_Cun_byNumber_281 : decode b_Cun_byNumber 281 = .ok (.aload_n 1, 1) := by decide +kernel
theorem d_Cun_byNumber_282 : decode b_Cun_byNumber 282 = .ok (.aload_n 2, 1) := by decide +kernel
theorem d_Cun_byNumber_283 : decode b_Cun_byNumber 283 = .ok (.aload_n 3, 1) := by decide +kernel
theorem d_Cun_byNumber_284 : decode b_Cun_byNumber 284 = .ok (.invokevirtual 96, 3) := by decide +kernel
theorem d_Cun_byNumber_287 : decode b_Cun_byNumber 287 = .ok (.ireturn, 1) := by decide +kernel
theorem d_Cun_byNumber_288 : decode b_Cun_byNumber 288 = .ok (.aload_n 0, 1) := by decide +kernel
theorem d_Cun_byNumber_289 : decode b_Cun_byNumber 289 = .ok (.getfield 18, 3) := by decide +kernel
theorem d_Cun_byNumber_292 : decode b_Cun_byNumber 292 = .ok (.aload_n 1, 1) := by decide +kernel
theorem d_Cun_byNumber_293 : decode b_Cun_byNumber 293 = .ok (.getfield 86, 3) := by decide +kernel
theorem d_Cun_byNumber_296 : decode b_Cun_byNumber 296 = .ok (.aload_n 2, 1) := by decide +kernel
theorem d_Cun_byNumber_297 : decode b_Cun_byNumber 297 = .ok (.getfield 99, 3) := by decide +kernel
theorem d_Cun_byNumber_300 : decode b_Cun_byNumber 300 = .ok (.aload_n 3, 1) := by decide +kernel
theorem d_Cun_byNumber_301 : decode b_Cun_byNumber 301 = .ok (.getfield 99, 3) := by decide +kernel
theorem d_Cun_byNumber_304 : decode b_Cun_byNumber 304 = .ok (.if_icmp .ne 15, 3) := by decide +kernel
theorem d_Cun_byNumber_307 : decode b_Cun_byNumber 307 = .ok (.aload_n 3, 1) := by decide +kernel
theorem d_Cun_byNumber_308 : decode b_Cun_byNumber 308 = .ok (.aload_n 2, 1) := by decide +kernel
theorem d_Cun_byNumber_309 : decode b_Cun_byNumber 309 = .ok (.invokevirtual 103, 3) := by decide +kernel
theorem d_Cun_byNumber_312 : decode b_Cun_byNumber 312 = .ok (.ifCond .eq 7, 3) := by decide +kernel
theorem d_Cun_byNumber_315 : decode b_Cun_byNumber 315 = .ok (.iconst 1, 1) := by decide +kernel
theorem d_Cun_byNumber_316 : decode b_Cun_byNumber 316 = .ok (.goto 4, 3) := by decide +kernel
theorem d_Cun_byNumber_319 : decode b_Cun_byNumber 319 = .ok (.iconst 0, 1) := by decide +kernel
theorem d_Cun_byNumber_320 : decode b_Cun_byNumber 320 = .ok (.invokevirtual 89, 3) := by decide +kernel
theorem d_Cun_byNumber_323 : decode b_Cun_byNumber 323 = .ok (.ireturn, 1) := by decide +kernel
theorem d_Cun_byNumber_324 : decode b_Cun_byNumber 324 = .ok (.aload_n 1, 1) := by decide +kernel
theorem d_Cun_byNumber_325 : decode b_Cun_byNumber 325 = .ok (.getfield 86, 3) := by decide +kernel
theorem d_Cun_byNumber_328 : decode b_Cun_byNumber 328 = .ok (.iconst 1, 1) := by decide +kernel
theorem d_Cun_byNumber_329 : decode b_Cun_byNumber 329 = .ok (.if_icmp .ne 13, 3) := by decide +kernel
theorem d_Cun_byNumber_332 : decode b_Cun_byNumber 332 = .ok (.aload_n 0, 1) := by decide +kernel
theorem d_Cun_byNumber_333 : decode b_Cun_byNumber 333 = .ok (.aload_n 1, 1) := by decide +kernel
theorem d_Cun_byNumber_334 : decode b_Cun_byNumber 334 = .ok (.aload_n 2, 1) := by decide +kernel
theorem d_Cun_byNumber_335 : decode b_Cun_byNumber 335 = .ok (.aload_n 3, 1) := by decide +kernel
theorem d_Cun_byNumber_336 : decode b_Cun_byNumber 336 = .ok (.invokevirtual 107, 3) := by decide +kernel
theorem d_Cun_byNumber_339 : decode b_Cun_byNumber 339 = .ok (.goto 11, 3) := by decide +kernel
theorem d_Cun_byNumber_342 : decode b_Cun_byNumber 342 = .ok (.aload_n 0, 1) := by decide +kernel
theorem d_Cun_byNumber_343 : decode b_Cun_byNumber 343 = .ok (.getfield 18, 3) := by decide +kernel
theorem d_Cun_byNumber_346 : decode b_Cun_byNumber 346 = .ok (.aload_n 1, 1) := by decide +kernel
theorem d_Cun_byNumber_347 : decode b_Cun_byNumber 347 = .ok (.invokevirtual 60, 3) := by decide +kernel
theorem d_Cun_byNumber_350 : decode b_Cun_byNumber 350 = .ok (.ireturn, 1) := by decide +kernel
theorem d_Cun_byNumber_351 : decode b_Cun_byNumber 351 = .ok (.aload_n 0, 1) := by decide +kernel
theorem d_Cun_byNumber_352 : decode b_Cun_byNumber 352 = .ok (.aload_n 1, 1) := by decide +kernel
theorem d_Cun_byNumber_353 : decode b_Cun_byNumber 353 = .ok (.aload_n 2, 1) := by decide +kernel
theorem d_Cun_byNumber_354 : decode b_Cun_byNumber 354 = .ok (.invokevirtual 110, 3) := by decide +kernel
theorem d_Cun_byNumber_357 : decode b_Cun_byNumber 357 = .ok (.ireturn, 1) := by decide +kernel
theorem d_Cun_byNumber_358 : decode b_Cun_byNumber 358 = .ok (.aload_n 0, 1) := by decide +kernel
theorem d_Cun_byNumber_359 : decode b_Cun_byNumber 359 = .ok (.getfield 18, 3) := by decide +kernel
theorem d_Cun_byNumber_362 : decode b_Cun_byNumber 362 = .ok (.aload_n 1, 1) := by decide +kernel
theorem d_Cun_byNumber_363 : decode b_Cun_byNumber 363 = .ok (.invokevirtual 60, 3) := by decide +kernel
theorem d_Cun_byNumber_366 : decode b_Cun_byNumber 366 = .ok (.ireturn, 1) := by decide +kernel
theorem d_Cun_special_0 : decode b_Cun_special 0 = .ok (.aload_n 1, 1) := by decide +kernel
theorem d_Cun_special_1 : decode b_Cun_special 1 = .ok (.getfield 37, 3) := by decide +kernel
theorem d_Cun_special_4 : decode b_Cun_special 4 = .ok (.ifCond .ne 14, 3) := by decide +kernel
theorem d_Cun_special_7 : decode b_Cun_special 7 = .ok (.aload_n 1, 1) := by decide +kernel
theorem d_Cun_special_8 : decode b_Cun_special 8 = .ok (.getfield 28, 3) := by decide +kernel
theorem d_Cun_special_11 : decode b_Cun_special 11 = .ok (.ifCond .ne 7, 3) := by decide +kernel
theorem d_Cun_special_14 : decode b_Cun_special 14 = .ok (.iconst 1, 1) := by decide +kernel
theorem d_Cun_special_15 : decode b_Cun_special 15 = .ok (.goto 4, 3) := by decide +kernel
theorem d_Cun_special_18 : decode b_Cun_special 18 = .ok (.iconst 0, 1) := by decide +kernel
theorem d_Cun_special_19 : decode b_Cun_special 19 = .ok (.istore_n 3, 1) := by decide +kernel
theorem d_Cun_special_20 : decode b_Cun_special 20 = .ok (.iload_n 3, 1) := by decide +kernel
theorem d_Cun_special_21 : decode b_Cun_special 21 = .ok (.ifCond .ne 21, 3) := by decide +kernel
theorem d_Cun_special_24 : decode b_Cun_special 24 = .ok (.aload_n 1, 1) := by decide +kernel
theorem d_Cun_special_25 : decode b_Cun_special 25 = .ok (.getfield 37, 3) := by decide +kernel
theorem d_Cun_special_28 : decode b_Cun_special 28 = .ok (.bipush 28, 2) := by decide +kernel
theorem d_Cun_special_30 : decode b_Cun_special 30 = .ok (.if_icmp .ge 12, 3) := by decide +kernel
theorem d_Cun_special_33 : decode b_Cun_special 33 = .ok (.aload_n 0, 1) := by decide +kernel
theorem d_Cun_special_34 : decode b_Cun_special 34 = .ok (.getfield 18, 3) := by decide +kernel
theorem d_Cun_special_37 : decode b_Cun_special 37 = .ok (.aload_n 1, 1) := by decide +kernel
theorem d_Cun_special_38 : decode b_Cun_special 38 = .ok (.invokevirtual 60, 3) := by decide +kernel
theorem d_Cun_special_41 : decode b_Cun_special 41 = .ok (.ireturn, 1) := by decide +kernel
theorem d_Cun_special_42 : decode b_Cun_special 42 = .ok (.iload_n 3, 1) := by decide +kernel
theorem d_Cun_special_43 : decode b_Cun_special 43 = .ok (.ifCond .ne 30, 3) := by decide +kernel
theorem d_Cun_special_46 : decode b_Cun_special 46 = .ok (.aload_n 0, 1) := by decide +kernel
theorem d_Cun_special_47 : decode b_Cun_special 47 = .ok (.getfield 18, 3) := by decide +kernel
theorem d_Cun_special_50 : decode b_Cun_special 50 = .ok (.getfield 129, 3) := by decide +kernel
theorem d_Cun_special_53 : decode b_Cun_special 53 = .ok (.bipush 10, 2) := by decide +kernel
theorem d_Cun_special_55 : decode b_Cun_special 55 = .ok (.invokevirtual 132, 3) := by decide +kernel
theorem d_Cun_special_58 : decode b_Cun_special 58 = .ok (.ifCond .ne 15, 3) := by decide +kernel
theorem d_Cun_special_61 : decode b_Cun_special 61 = .ok (.aload_n 0, 1) := by decide +kernel
theorem d_Cun_special_62 : decode b_Cun_special 62 = .ok (.getfield 18, 3) := by decide +kernel
theorem d_Cun_special_65 : decode b_Cun_special 65 = .ok (.bipush 32, 2) := by decide +kernel
theorem d_Cun_special_67 : decode b_Cun_special 67 = .ok (.bipush 24, 2) := by decide +kernel
theorem d_Cun_special_69 : decode b_Cun_special 69 = .ok (.invokevirtual 136, 3) := by decide +kernel
theorem d_Cun_special_72 : decode b_Cun_special 72 = .ok (.ireturn, 1) := by decide +kernel
theorem d_Cun_special_73 : decode b_Cun_special 73 = .ok (.aload_n 0, 1) := by decide +kernel
theorem d_Cun_special_74 : decode b_Cun_special 74 = .ok (.getfield 18, 3) := by decide +kernel
theorem d_Cun_special_77 : decode b_Cun_special 77 = .ok (.getfield 22, 3) := by decide +kernel
theorem d_Cun_special_80 : decode b_Cun_special 80 = .ok (.iload_n 3, 1) := by decide +kernel
theorem d_Cun_special_81 : decode b_Cun_special 81 = .ok (.ifCond .eq 8, 3) := by decide +kernel
theorem d_Cun_special_84 : decode b_Cun_special 84 = .ok (.bipush 32, 2) := by decide +kernel
theorem d_Cun_special_86 : decode b_Cun_special 86 = .ok (.goto 13, 3) := by decide +kernel
theorem d_Cun_special_89 : decode b_Cun_special 89 = .ok (.aload_n 1, 1) := by decide +kernel
theorem d_Cun_special_90 : decode b_Cun_special 90 = .ok (.getfield 37, 3) := by decide +kernel
theorem d_Cun_special_93 : decode b_Cun_special 93 = .ok (.bipush 28, 2) := by decide +kernel
theorem d_Cun_special_95 : decode b_Cun_special 95 = .ok (.isub, 1) := by decide +kernel
theorem d_Cun_special_96 : decode b_Cun_special 96 = .ok (.bipush 33, 2) := by decide +kernel
theorem d_Cun_special_98 : decode b_Cun_special 98 = .ok (.iadd, 1) := by decide +kernel
theorem d_Cun_special_99 : decode b_Cun_special 99 = .ok (.aaload, 1) := by decide +kernel
theorem d_Cun_special_100 : decode b_Cun_special 100 = .ok (.astore 4, 2) := by decide +kernel
theorem d_Cun_special_102 : decode b_Cun_special 102 = .ok (.aload_n 0, 1) := by decide +kernel
theorem d_Cun_special_103 : decode b_Cun_special 103 = .ok (.getfield 18, 3) := by decide +kernel
theorem d_Cun_special_106 : decode b_Cun_special 106 = .ok (.getfield 113, 3) := by decide +kernel
theorem d_Cun_special_109 : decode b_Cun_special 109 = .ok (.aload 4, 2) := by decide +kernel
theorem d_Cun_special_111 : decode b_Cun_special 111 = .ok (.invokevirtual 117, 3) := by decide +kernel
theorem d_Cun_special_114 : decode b_Cun_special 114 = .ok (.aload_n 1, 1) := by decide +kernel
theorem d_Cun_special_115 : decode b_Cun_special 115 = .ok (.getfield 28, 3) := by decide +kernel
theorem d_Cun_special_118 : decode b_Cun_special 118 = .ok (.ifCond .eq 9, 3) := by decide +kernel
theorem d_Cun_special_121 : decode b_Cun_special 121 = .ok (.aload 4, 2) := by decide +kernel
theorem d_Cun_special_123 : decode b_Cun_special 123 = .ok (.aload_n 2, 1) := by decide +kernel
theorem d_Cun_special_124 : decode b_Cun_special 124 = .ok (.invokevirtual 117, 3) := by decide +kernel
theorem d_Cun_special_127 : decode b_Cun_special 127 = .ok (.aload_n 0, 1) := by decide +kernel
theorem d_Cun_special_128 : decode b_Cun_special 128 = .ok (.getfield 18, 3) := by decide +kernel
theorem d_Cun_special_131 : decode b_Cun_special 131 = .ok (.aload_n 1, 1) := by decide +kernel
theorem d_Cun_special_132 : decode b_Cun_special 132 = .ok (.getfield 86, 3) := by decide +kernel
theorem d_Cun_special_135 : decode b_Cun_special 135 = .ok (.invokevirtual 125, 3) := by decide +kernel
theorem d_Cun_special_138 : decode b_Cun_special 138 = .ok (.ireturn, 1) := by decide +kernel
theorem d_Cun_bounded_0 : decode b_Cun_bounded 0 = .ok (.aload_n 2, 1) := by decide +kernel
theorem d_Cun_bounded_1 : decode b_Cun_bounded 1 = .ok (.getfield 44, 3) := by decide +kernel
theorem d_Cun_bounded_4 : decode b_Cun_bounded 4 = .ok (.i2l, 1) := by decide +kernel
theorem d_Cun_bounded_5 : decode b_Cun_bounded 5 = .ok (.ldc2_w 71, 3) := by decide +kernel
theorem d_Cun_bounded_8 : decode b_Cun_bounded 8 = .ok (.land, 1) := by decide +kernel
theorem d_Cun_bounded_9 : decode b_Cun_bounded 9 = .ok (.lstore 6, 2) := by decide +kernel
theorem d_Cun_bounded_11 : decode b_Cun_bounded 11 = .ok (.aload_n 0, 1) := by decide +kernel
theorem d_Cun_bounded_12 : decode b_Cun_bounded 12 = .ok (.getfield 12, 3) := by decide +kernel
theorem d_Cun_bounded_15 : decode b_Cun_bounded 15 = .ok (.lload 6, 2) := by decide +kernel
theorem d_Cun_bounded_17 : decode b_Cun_bounded 17 = .ok (.lload 6, 2) := by decide +kernel
theorem d_Cun_bounded_19 : decode b_Cun_bounded 19 = .ok (.lload_n 3, 1) := by decide +kernel
theorem d_Cun_bounded_20 : decode b_Cun_bounded 20 = .ok (.ladd, 1) := by decide +kernel
theorem d_Cun_bounded_21 : decode b_Cun_bounded 21 = .ok (.ldc2_w 139, 3) := by decide +kernel
theorem d_Cun_bounded_24 : decode b_Cun_bounded 24 = .ok (.invokestatic 141, 3) := by decide +kernel
theorem d_Cun_bounded_27 : decode b_Cun_bounded 27 = .ok (.invokevirtual 147, 3) := by decide +kernel
theorem d_Cun_bounded_30 : decode b_Cun_bounded 30 = .ok (.aload_n 2, 1) := by decide +kernel
theorem d_Cun_bounded_31 : decode b_Cun_bounded 31 = .ok (.getfield 99, 3) := by decide +kernel
theorem d_Cun_bounded_34 : decode b_Cun_bounded 34 = .ok (.ifCond .eq 37, 3) := by decide +kernel
theorem d_Cun_bounded_37 : decode b_Cun_bounded 37 = .ok (.aload_n 2, 1) := by decide +kernel
theorem d_Cun_bounded_38 : decode b_Cun_bounded 38 = .ok (.invokevirtual 151, 3) := by decide +kernel
theorem d_Cun_bounded_41 : decode b_Cun_bounded 41 = .ok (.ifCond .eq 30, 3) := by decide +kernel
theorem d_Cun_bounded_44 : decode b_Cun_bounded 44 = .ok (.aload_n 2, 1) := by decide +kernel
theorem d_Cun_bounded_45 : decode b_Cun_bounded 45 = .ok (.aload_n 2, 1) := by decide +kernel
theorem d_Cun_bounded_46 : decode b_Cun_bounded 46 = .ok (.getfield 44, 3) := by decide +kernel
theorem d_Cun_bounded_49 : decode b_Cun_bounded 49 = .ok (.lload_n 3, 1) := by decide +kernel
theorem d_Cun_bounded_50 : decode b_Cun_bounded 50 = .ok (.invokevirtual 155, 3) := by decide +kernel
theorem d_Cun_bounded_53 : decode b_Cun_bounded 53 = .ok (.ifCond .eq 18, 3) := by decide +kernel
theorem d_Cun_bounded_56 : decode b_Cun_bounded 56 = .ok (.lload 6, 2) := by decide +kernel
theorem d_Cun_bounded_58 : decode b_Cun_bounded 58 = .ok (.lload_n 3, 1) := by decide +kernel
theorem d_Cun_bounded_59 : decode b_Cun_bounded 59 = .ok (.ladd, 1) := by decide +kernel
theorem d_Cun_bounded_60 : decode b_Cun_bounded 60 = .ok (.ldc2_w 139, 3) := by decide +kernel
theorem d_Cun_bounded_63 : decode b_Cun_bounded 63 = .ok (.lcmp, 1) := by decide +kernel
theorem d_Cun_bounded_64 : decode b_Cun_bounded 64 = .ok (.ifCond .gt 7, 3) := by decide +kernel
theorem d_Cun_bounded_67 : decode b_Cun_bounded 67 = .ok (.iconst 1, 1) := by decide +kernel
theorem d_Cun_bounded_68 : decode b_Cun_bounded 68 = .ok (.goto 4, 3) := by decide +kernel
theorem d_Cun_bounded_71 : decode b_Cun_bounded 71 = .ok (.iconst 0, 1) := by decide +kernel
theorem d_Cun_bounded_72 : decode b_Cun_bounded 72 = .ok (.istore 8, 2) := by decide +kernel
theorem d_Cun_bounded_74 : decode b_Cun_bounded 74 = .ok (.aload_n 0, 1) := by decide +kernel
theorem d_Cun_bounded_75 : decode b_Cun_bounded 75 = .ok (.getfield 18, 3) := by decide +kernel
theorem d_Cun_bounded_78 : decode b_Cun_bounded 78 = .ok (.getfield 113, 3) := by decide +kernel
theorem d_Cun_bounded_81 : decode b_Cun_bounded 81 = .ok (.aload_n 2, 1) := by decide +kernel
theorem d_Cun_bounded_82 : decode b_Cun_bounded 82 = .ok (.invokevirtual 117, 3) := by decide +kernel
theorem d_Cun_bounded_85 : decode b_Cun_bounded 85 = .ok (.aload_n 0, 1) := by decide +kernel
theorem d_Cun_bounded_86 : decode b_Cun_bounded 86 = .ok (.getfield 18, 3) := by decide +kernel
theorem d_Cun_bounded_89 : decode b_Cun_bounded 89 = .ok (.getfield 113, 3) := by decide +kernel
theorem d_Cun_bounded_92 : decode b_Cun_bounded 92 = .ok (.aload_n 0, 1) := by decide +kernel
theorem d_Cun_bounded_93 : decode b_Cun_bounded 93 = .ok (.getfield 12, 3) := by decide +kernel
theorem d_Cun_bounded_96 : decode b_Cun_bounded 96 = .ok (.getfield 159, 3) := by decide +kernel
theorem d_Cun_bounded_99 : decode b_Cun_bounded 99 = .ok (.invokevirtual 162, 3) := by decide +kernel
theorem d_Cun_bounded_102 : decode b_Cun_bounded 102 = .ok (.aload_n 0, 1) := by decide +kernel
theorem d_Cun_bounded_103 : decode b_Cun_bounded 103 = .ok (.getfield 18, 3) := by decide +kernel
theorem d_Cun_bounded_106 : decode b_Cun_bounded 106 = .ok (.getfield 113, 3) := by decide +kernel
theorem d_Cun_bounded_109 : decode b_Cun_bounded 109 = .ok (.iload 8, 2) := by decide +kernel
theorem d_Cun_bounded_111 : decode b_Cun_bounded 111 = .ok (.ifCond .eq 22, 3) := by decide +kernel
theorem d_Cun_bounded_114 : decode b_Cun_bounded 114 = .ok (.aload_n 0, 1) := by decide +kernel
theorem d_Cun_bounded_115 : decode b_Cun_bounded 115 = .ok (.getfield 12, 3) := by decide +kernel
theorem d_Cun_bounded_118 : decode b_Cun_bounded 118 = .ok (.getfield 165, 3) := by decide +kernel
theorem d_Cun_bounded_121 : decode b_Cun_bounded 121 = .ok (.ifCond .ne 8, 3) := by decide +kernel
theorem d_Cun_bounded_124 : decode b_Cun_bounded 124 = .ok (.iload 5, 2) := by decide +kernel
theorem d_Cun_bounded_126 : decode b_Cun_bounded 126 = .ok (.ifCond .ne 7, 3) := by decide +kernel
theorem d_Cun_bounded_129 : decode b_Cun_bounded 129 = .ok (.iconst 1, 1) := by decide +kernel
theorem d_Cun_bounded_130 : decode b_Cun_bounded 130 = .ok (.goto 4, 3) := by decide +kernel
theorem d_Cun_bounded_133 : decode b_Cun_bounded 133 = .ok (.iconst 0, 1) := by decide +kernel
theorem d_Cun_bounded_134 : decode b_Cun_bounded 134 = .ok (.putfield 99, 3) := by decide +kernel
theorem d_Cun_bounded_137 : decode b_Cun_bounded 137 = .ok (.aload_n 0, 1) := by decide +kernel
theorem d_Cun_bounded_138 : decode b_Cun_bounded 138 = .ok (.getfield 18, 3) := by decide +kernel
theorem d_Cun_bounded_141 : decode b_Cun_bounded 141 = .ok (.aload_n 1, 1) := by decide +kernel
theorem d_Cun_bounded_142 : decode b_Cun_bounded 142 = .ok (.getfield 86, 3) := by decide +kernel
theorem d_Cun_bounded_145 : decode b_Cun_bounded 145 = .ok (.invokevirtual 125, 3) := by decide +kernel
theorem d_Cun_bounded_148 : decode b_Cun_bounded 148 = .ok (.ireturn, 1) := by decide +kernel
theorem d_Cun_seal_0 : decode b_Cun_seal 0 = .ok (.aload_n 2, 1) := by decide +kernel
theorem d_Cun_seal_1 : decode b_Cun_seal 1 = .ok (.getfield 99, 3) := by decide +kernel
theorem d_Cun_seal_4 : decode b_Cun_seal 4 = .ok (.ifCond .eq 23, 3) := by decide +kernel
theorem d_Cun_seal_7 : decode b_Cun_seal 7 = .ok (.aload_n 2, 1) := by decide +kernel
theorem d_Cun_seal_8 : decode b_Cun_seal 8 = .ok (.invokevirtual 151, 3) := by decide +kernel
theorem d_Cun_seal_11 : decode b_Cun_seal 11 = .ok (.ifCond .eq 16, 3) := by decide +kernel
theorem d_Cun_seal_14 : decode b_Cun_seal 14 = .ok (.aload_n 3, 1) := by decide +kernel
theorem d_Cun_seal_15 : decode b_Cun_seal 15 = .ok (.bipush 7, 2) := by decide +kernel
theorem d_Cun_seal_17 : decode b_Cun_seal 17 = .ok (.invokestatic 168, 3) := by decide +kernel
theorem d_Cun_seal_20 : decode b_Cun_seal 20 = .ok (.ifCond .eq 7, 3) := by decide +kernel
theorem d_Cun_seal_23 : decode b_Cun_seal 23 = .ok (.iconst 1, 1) := by decide +kernel
theorem d_Cun_seal_24 : decode b_Cun_seal 24 = .ok (.goto 4, 3) := by decide +kernel
theorem d_Cun_seal_27 : decode b_Cun_seal 27 = .ok (.iconst 0, 1) := by decide +kernel
theorem d_Cun_seal_28 : decode b_Cun_seal 28 = .ok (.istore 4, 2) := by decide +kernel
theorem d_Cun_seal_30 : decode b_Cun_seal 30 = .ok (.aload_n 0, 1) := by decide +kernel
theorem d_Cun_seal_31 : decode b_Cun_seal 31 = .ok (.getfield 18, 3) := by decide +kernel
theorem d_Cun_seal_34 : decode b_Cun_seal 34 = .ok (.getfield 113, 3) := by decide +kernel
theorem d_Cun_seal_37 : decode b_Cun_seal 37 = .ok (.aload_n 2, 1) := by decide +kernel
theorem d_Cun_seal_38 : decode b_Cun_seal 38 = .ok (.invokevirtual 117, 3) := by decide +kernel
theorem d_Cun_seal_41 : decode b_Cun_seal 41 = .ok (.aload_n 0, 1) := by decide +kernel
theorem d_Cun_seal_42 : decode b_Cun_seal 42 = .ok (.getfield 18, 3) := by decide +kernel
theorem d_Cun_seal_45 : decode b_Cun_seal 45 = .ok (.getfield 113, 3) := by decide +kernel
theorem d_Cun_seal_48 : decode b_Cun_seal 48 = .ok (.aload_n 3, 1) := by decide +kernel
theorem d_Cun_seal_49 : decode b_Cun_seal 49 = .ok (.getfield 44, 3) := by decide +kernel
theorem d_Cun_seal_52 : decode b_Cun_seal 52 = .ok (.bipush 15, 2) := by decide +kernel
theorem d_Cun_seal_54 : decode b_Cun_seal 54 = .ok (.iand, 1) := by decide +kernel
theorem d_Cun_seal_55 : decode b_Cun_seal 55 = .ok (.invokevirtual 172, 3) := by decide +kernel
theorem d_Cun_seal_58 : decode b_Cun_seal 58 = .ok (.aload_n 0, 1) := by decide +kernel
theorem d_Cun_seal_59 : decode b_Cun_seal 59 = .ok (.getfield 18, 3) := by decide +kernel
theorem d_Cun_seal_62 : decode b_Cun_seal 62 = .ok (.getfield 113, 3) := by decide +kernel
theorem d_Cun_seal_65 : decode b_Cun_seal 65 = .ok (.iload 4, 2) := by decide +kernel
theorem d_Cun_seal_67 : decode b_Cun_seal 67 = .ok (.putfield 99, 3) := by decide +kernel
theorem d_Cun_seal_70 : decode b_Cun_seal 70 = .ok (.aload_n 0, 1) := by decide +kernel
theorem d_Cun_seal_71 : decode b_Cun_seal 71 = .ok (.getfield 18, 3) := by decide +kernel
theorem d_Cun_seal_74 : decode b_Cun_seal 74 = .ok (.aload_n 1, 1) := by decide +kernel
theorem d_Cun_seal_75 : decode b_Cun_seal 75 = .ok (.getfield 86, 3) := by decide +kernel
theorem d_Cun_seal_78 : decode b_Cun_seal 78 = .ok (.invokevirtual 125, 3) := by decide +kernel
theorem d_Cun_seal_81 : decode b_Cun_seal 81 = .ok (.ireturn, 1) := by decide +kernel
theorem d_Cun_mayUseTypes_0 : decode b_Cun_mayUseTypes 0 = .ok (.aload_n 0, 1) := by decide +kernel
theorem d_Cun_mayUseTypes_1 : decode b_Cun_mayUseTypes 1 = .ok (.getfield 44, 3) := by decide +kernel
theorem d_Cun_mayUseTypes_4 : decode b_Cun_mayUseTypes 4 = .ok (.ifCond .lt 28, 3) := by decide +kernel
theorem d_Cun_mayUseTypes_7 : decode b_Cun_mayUseTypes 7 = .ok (.aload_n 0, 1) := by decide +kernel
theorem d_Cun_mayUseTypes_8 : decode b_Cun_mayUseTypes 8 = .ok (.getfield 44, 3) := by decide +kernel
theorem d_Cun_mayUseTypes_11 : decode b_Cun_mayUseTypes 11 = .ok (.bipush 12, 2) := by decide +kernel
theorem d_Cun_mayUseTypes_13 : decode b_Cun_mayUseTypes 13 = .ok (.if_icmp .ge 19, 3) := by decide +kernel
theorem d_Cun_mayUseTypes_16 : decode b_Cun_mayUseTypes 16 = .ok (.aload_n 0, 1) := by decide +kernel
theorem d_Cun_mayUseTypes_17 : decode b_Cun_mayUseTypes 17 = .ok (.aload_n 0, 1) := by decide +kernel
theorem d_Cun_mayUseTypes_18 : decode b_Cun_mayUseTypes 18 = .ok (.getfield 44, 3) := by decide +kernel
theorem d_Cun_mayUseTypes_21 : decode b_Cun_mayUseTypes 21 = .ok (.lconst 1, 1) := by decide +kernel
theorem d_Cun_mayUseTypes_22 : decode b_Cun_mayUseTypes 22 = .ok (.invokevirtual 155, 3) := by decide +kernel
theorem d_Cun_mayUseTypes_25 : decode b_Cun_mayUseTypes 25 = .ok (.ifCond .eq 7, 3) := by decide +kernel
theorem d_Cun_mayUseTypes_28 : decode b_Cun_mayUseTypes 28 = .ok (.iconst 1, 1) := by decide +kernel
theorem d_Cun_mayUseTypes_29 : decode b_Cun_mayUseTypes 29 = .ok (.goto 4, 3) := by decide +kernel
theorem d_Cun_mayUseTypes_32 : decode b_Cun_mayUseTypes 32 = .ok (.iconst 0, 1) := by decide +kernel
theorem d_Cun_mayUseTypes_33 : decode b_Cun_mayUseTypes 33 = .ok (.istore_n 2, 1) := by decide +kernel
theorem d_Cun_mayUseTypes_34 : decode b_Cun_mayUseTypes 34 = .ok (.aload_n 0, 1) := by decide +kernel
theorem d_Cun_mayUseTypes_35 : decode b_Cun_mayUseTypes 35 = .ok (.getfield 99, 3) := by decide +kernel
theorem d_Cun_mayUseTypes_38 : decode b_Cun_mayUseTypes 38 = .ok (.ifCond .eq 26, 3) := by decide +kernel
theorem d_Cun_mayUseTypes_41 : decode b_Cun_mayUseTypes 41 = .ok (.aload_n 0, 1) := by decide +kernel
theorem d_Cun_mayUseTypes_42 : decode b_Cun_mayUseTypes 42 = .ok (.invokevirtual 151, 3) := by decide +kernel
theorem d_Cun_mayUseTypes_45 : decode b_Cun_mayUseTypes 45 = .ok (.ifCond .eq 19, 3) := by decide +kernel
theorem d_Cun_mayUseTypes_48 : decode b_Cun_mayUseTypes 48 = .ok (.aload_n 0, 1) := by decide +kernel
theorem d_Cun_mayUseTypes_49 : decode b_Cun_mayUseTypes 49 = .ok (.iload_n 1, 1) := by decide +kernel
theorem d_Cun_mayUseTypes_50 : decode b_Cun_mayUseTypes 50 = .ok (.invokevirtual 132, 3) := by decide +kernel
theorem d_Cun_mayUseTypes_53 : decode b_Cun_mayUseTypes 53 = .ok (.ifCond .eq 11, 3) := by decide +kernel
theorem d_Cun_mayUseTypes_56 : decode b_Cun_mayUseTypes 56 = .ok (.iload_n 2, 1) := by decide +kernel
theorem d_Cun_mayUseTypes_57 : decode b_Cun_mayUseTypes 57 = .ok (.ifCond .eq 7, 3) := by decide +kernel
theorem d_Cun_mayUseTypes_60 : decode b_Cun_mayUseTypes 60 = .ok (.iconst 1, 1) := by decide +kernel
theorem d_Cun_mayUseTypes_61 : decode b_Cun_mayUseTypes 61 = .ok (.goto 4, 3) := by decide +kernel
theorem d_Cun_mayUseTypes_64 : decode b_Cun_mayUseTypes 64 = .ok (.iconst 0, 1) := by decide +kernel
theorem d_Cun_mayUseTypes_65 : decode b_Cun_mayUseTypes 65 = .ok (.ireturn, 1) := by decide +kernel
theorem d_Cun_unseal_0 : decode b_Cun_unseal 0 = .ok (.aload_n 2, 1) := by decide +kernel
theorem d_Cun_unseal_1 : decode b_Cun_unseal 1 = .ok (.getfield 99, 3) := by decide +kernel
theorem d_Cun_unseal_4 : decode b_Cun_unseal 4 = .ok (.ifCond .eq 27, 3) := by decide +kernel
theorem d_Cun_unseal_7 : decode b_Cun_unseal 7 = .ok (.aload_n 2, 1) := by decide +kernel
theorem d_Cun_unseal_8 : decode b_Cun_unseal 8 = .ok (.invokevirtual 175, 3) := by decide +kernel
theorem d_Cun_unseal_11 : decode b_Cun_unseal 11 = .ok (.aload_n 3, 1) := by decide +kernel
theorem d_Cun_unseal_12 : decode b_Cun_unseal 12 = .ok (.getfield 44, 3) := by decide +kernel
theorem d_Cun_unseal_15 : decode b_Cun_unseal 15 = .ok (.if_icmp .ne 16, 3) := by decide +kernel
theorem d_Cun_unseal_18 : decode b_Cun_unseal 18 = .ok (.aload_n 3, 1) := by decide +kernel
theorem d_Cun_unseal_19 : decode b_Cun_unseal 19 = .ok (.bipush 9, 2) := by decide +kernel
theorem d_Cun_unseal_21 : decode b_Cun_unseal 21 = .ok (.invokestatic 168, 3) := by decide +kernel
theorem d_Cun_unseal_24 : decode b_Cun_unseal 24 = .ok (.ifCond .eq 7, 3) := by decide +kernel
theorem d_Cun_unseal_27 : decode b_Cun_unseal 27 = .ok (.iconst 1, 1) := by decide +kernel
theorem d_Cun_unseal_28 : decode b_Cun_unseal 28 = .ok (.goto 4, 3) := by decide +kernel
theorem d_Cun_unseal_31 : decode b_Cun_unseal 31 = .ok (.iconst 0, 1) := by decide +kernel
theorem d_Cun_unseal_32 : decode b_Cun_unseal 32 = .ok (.istore 4, 2) := by decide +kernel
theorem d_Cun_unseal_34 : decode b_Cun_unseal 34 = .ok (.aload_n 0, 1) := by decide +kernel
theorem d_Cun_unseal_35 : decode b_Cun_unseal 35 = .ok (.getfield 18, 3) := by decide +kernel
theorem d_Cun_unseal_38 : decode b_Cun_unseal 38 = .ok (.getfield 113, 3) := by decide +kernel
theorem d_Cun_unseal_41 : decode b_Cun_unseal 41 = .ok (.aload_n 2, 1) := by decide +kernel
theorem d_Cun_unseal_42 : decode b_Cun_unseal 42 = .ok (.invokevirtual 117, 3) := by decide +kernel
theorem d_Cun_unseal_45 : decode b_Cun_unseal 45 = .ok (.aload_n 0, 1) := by decide +kernel
theorem d_Cun_unseal_46 : decode b_Cun_unseal 46 = .ok (.getfield 18, 3) := by decide +kernel
theorem d_Cun_unseal_49 : decode b_Cun_unseal 49 = .ok (.getfield 113, 3) := by decide +kernel
theorem d_Cun_unseal_52 : decode b_Cun_unseal 52 = .ok (.bipush 15, 2) := by decide +kernel
theorem d_Cun_unseal_54 : decode b_Cun_unseal 54 = .ok (.invokevirtual 172, 3) := by decide +kernel
theorem d_Cun_unseal_57 : decode b_Cun_unseal 57 = .ok (.aload_n 3, 1) := by decide +kernel
theorem d_Cun_unseal_58 : decode b_Cun_unseal 58 = .ok (.iconst 0, 1) := by decide +kernel
theorem d_Cun_unseal_59 : decode b_Cun_unseal 59 = .ok (.invokevirtual 132, 3) := by decide +kernel
theorem d_Cun_unseal_62 : decode b_Cun_unseal 62 = .ok (.ifCond .ne 20, 3) := by decide +kernel
theorem d_Cun_unseal_65 : decode b_Cun_unseal 65 = .ok (.aload_n 0, 1) := by decide +kernel
theorem d_Cun_unseal_66 : decode b_Cun_unseal 66 = .ok (.getfield 18, 3) := by decide +kernel
theorem d_Cun_unseal_69 : decode b_Cun_unseal 69 = .ok (.getfield 113, 3) := by decide +kernel
theorem d_Cun_unseal_72 : decode b_Cun_unseal 72 = .ok (.aload_n 2, 1) := by decide +kernel
theorem d_Cun_unseal_73 : decode b_Cun_unseal 73 = .ok (.invokevirtual 179, 3) := by decide +kernel
theorem d_Cun_unseal_76 : decode b_Cun_unseal 76 = .ok (.bipush (-2), 2) := by decide +kernel
theorem d_Cun_unseal_78 : decode b_Cun_unseal 78 = .ok (.iand, 1) := by decide +kernel
theorem d_Cun_unseal_79 : decode b_Cun_unseal 79 = .ok (.invokevirtual 182, 3) := by decide +kernel
theorem d_Cun_unseal_82 : decode b_Cun_unseal 82 = .ok (.aload_n 0, 1) := by decide +kernel
theorem d_Cun_unseal_83 : decode b_Cun_unseal 83 = .ok (.getfield 18, 3) := by decide +kernel
theorem d_Cun_unseal_86 : decode b_Cun_unseal 86 = .ok (.getfield 113, 3) := by decide +kernel
theorem d_Cun_unseal_89 : decode b_Cun_unseal 89 = .ok (.iload 4, 2) := by decide +kernel
theorem d_Cun_unseal_91 : decode b_Cun_unseal 91 = .ok (.putfield 99, 3) := by decide +kernel
theorem d_Cun_unseal_94 : decode b_Cun_unseal 94 = .ok (.aload_n 0, 1) := by decide +kernel
theorem d_Cun_unseal_95 : decode b_Cun_unseal 95 = .ok (.getfield 18, 3) := by decide +kernel
theorem d_Cun_unseal_98 : decode b_Cun_unseal 98 = .ok (.aload_n 1, 1) := by decide +kernel
theorem d_Cun_unseal_99 : decode b_Cun_unseal 99 = .ok (.getfield 86, 3) := by decide +kernel
theorem d_Cun_unseal_102 : decode b_Cun_unseal 102 = .ok (.invokevirtual 125, 3) := by decide +kernel
theorem d_Cun_unseal_105 : decode b_Cun_unseal 105 = .ok (.ireturn, 1) := by decide +kernel
theorem d_Cun_andPerms_0 : decode b_Cun_andPerms 0 = .ok (.aload_n 0, 1) := by decide +kernel
theorem d_Cun_andPerms_1 : decode b_Cun_andPerms 1 = .ok (.getfield 18, 3) := by decide +kernel
theorem d_Cun_andPerms_4 : decode b_Cun_andPerms 4 = .ok (.getfield 113, 3) := by decide +kernel
theorem d_Cun_andPerms_7 : decode b_Cun_andPerms 7 = .ok (.aload_n 2, 1) := by decide +kernel
theorem d_Cun_andPerms_8 : decode b_Cun_andPerms 8 = .ok (.invokevirtual 117, 3) := by decide +kernel
theorem d_Cun_andPerms_11 : decode b_Cun_andPerms 11 = .ok (.aload_n 0, 1) := by decide +kernel
theorem d_Cun_andPerms_12 : decode b_Cun_andPerms 12 = .ok (.getfield 18, 3) := by decide +kernel
theorem d_Cun_andPerms_15 : decode b_Cun_andPerms 15 = .ok (.getfield 113, 3) := by decide +kernel
theorem d_Cun_andPerms_18 : decode b_Cun_andPerms 18 = .ok (.aload_n 2, 1) := by decide +kernel
theorem d_Cun_andPerms_19 : decode b_Cun_andPerms 19 = .ok (.invokevirtual 179, 3) := by decide +kernel
theorem d_Cun_andPerms_22 : decode b_Cun_andPerms 22 = .ok (.iload_n 3, 1) := by decide +kernel
theorem d_Cun_andPerms_23 : decode b_Cun_andPerms 23 = .ok (.iand, 1) := by decide +kernel
theorem d_Cun_andPerms_24 : decode b_Cun_andPerms 24 = .ok (.invokevirtual 182, 3) := by decide +kernel
theorem d_Cun_andPerms_27 : decode b_Cun_andPerms 27 = .ok (.aload_n 0, 1) := by decide +kernel
theorem d_Cun_andPerms_28 : decode b_Cun_andPerms 28 = .ok (.getfield 18, 3) := by decide +kernel
theorem d_Cun_andPerms_31 : decode b_Cun_andPerms 31 = .ok (.getfield 113, 3) := by decide +kernel
theorem d_Cun_andPerms_34 : decode b_Cun_andPerms 34 = .ok (.aload_n 2, 1) := by decide +kernel
theorem d_Cun_andPerms_35 : decode b_Cun_andPerms 35 = .ok (.getfield 99, 3) := by decide +kernel
theorem d_Cun_andPerms_38 : decode b_Cun_andPerms 38 = .ok (.ifCond .eq 14, 3) := by decide +kernel
theorem d_Cun_andPerms_41 : decode b_Cun_andPerms 41 = .ok (.aload_n 2, 1) := by decide +kernel
theorem d_Cun_andPerms_42 : decode b_Cun_andPerms 42 = .ok (.invokevirtual 151, 3) := by decide +kernel
theorem d_Cun_andPerms_45 : decode b_Cun_andPerms 45 = .ok (.ifCond .eq 7, 3) := by decide +kernel
theorem d_Cun_andPerms_48 : decode b_Cun_andPerms 48 = .ok (.iconst 1, 1) := by decide +kernel
theorem d_Cun_andPerms_49 : decode b_Cun_andPerms 49 = .ok (.goto 4, 3) := by decide +kernel
theorem d_Cun_andPerms_52 : decode b_Cun_andPerms 52 = .ok (.iconst 0, 1) := by decide +kernel
theorem d_Cun_andPerms_53 : decode b_Cun_andPerms 53 = .ok (.putfield 99, 3) := by decide +kernel
theorem d_Cun_andPerms_56 : decode b_Cun_andPerms 56 = .ok (.aload_n 0, 1) := by decide +kernel
theorem d_Cun_andPerms_57 : decode b_Cun_andPerms 57 = .ok (.getfield 18, 3) := by decide +kernel
theorem d_Cun_andPerms_60 : decode b_Cun_andPerms 60 = .ok (.aload_n 1, 1) := by decide +kernel
theorem d_Cun_andPerms_61 : decode b_Cun_andPerms 61 = .ok (.getfield 86, 3) := by decide +kernel
theorem d_Cun_andPerms_64 : decode b_Cun_andPerms 64 = .ok (.invokevirtual 125, 3) := by decide +kernel
theorem d_Cun_andPerms_67 : decode b_Cun_andPerms 67 = .ok (.ireturn, 1) := by decide +kernel
theorem d_Cun_move_0 : decode b_Cun_move 0 = .ok (.aload_n 0, 1) := by decide +kernel
theorem d_Cun_move_1 : decode b_Cun_move 1 = .ok (.getfield 18, 3) := by decide +kernel
theorem d_Cun_move_4 : decode b_Cun_move 4 = .ok (.getfield 113, 3) := by decide +kernel
theorem d_Cun_move_7 : decode b_Cun_move 7 = .ok (.aload_n 2, 1) := by decide +kernel
theorem d_Cun_move_8 : decode b_Cun_move 8 = .ok (.invokevirtual 117, 3) := by decide +kernel
theorem d_Cun_move_11 : decode b_Cun_move 11 = .ok (.aload_n 0, 1) := by decide +kernel
theorem d_Cun_move_12 : decode b_Cun_move 12 = .ok (.getfield 18, 3) := by decide +kernel
theorem d_Cun_move_15 : decode b_Cun_move 15 = .ok (.getfield 113, 3) := by decide +kernel
theorem d_Cun_move_18 : decode b_Cun_move 18 = .ok (.iload_n 3, 1) := by decide +kernel
theorem d_Cun_move_19 : decode b_Cun_move 19 = .ok (.invokevirtual 121, 3) := by decide +kernel
theorem d_Cun_move_22 : decode b_Cun_move 22 = .ok (.aload_n 0, 1) := by decide +kernel
theorem d_Cun_move_23 : decode b_Cun_move 23 = .ok (.getfield 18, 3) := by decide +kernel
theorem d_Cun_move_26 : decode b_Cun_move 26 = .ok (.aload_n 1, 1) := by decide +kernel
theorem d_Cun_move_27 : decode b_Cun_move 27 = .ok (.getfield 86, 3) := by decide +kernel
theorem d_Cun_move_30 : decode b_Cun_move 30 = .ok (.invokevirtual 125, 3) := by decide +kernel
theorem d_Cun_move_33 : decode b_Cun_move 33 = .ok (.ireturn, 1) := by decide +kernel
theorem d_Cun_setHigh_0 : decode b_Cun_setHigh 0 = .ok (.aload_n 0, 1) := by decide +kernel
theorem d_Cun_setHigh_1 : decode b_Cun_setHigh 1 = .ok (.getfield 18, 3) := by decide +kernel
theorem d_Cun_setHigh_4 : decode b_Cun_setHigh 4 = .ok (.getfield 113, 3) := by decide +kernel
theorem d_Cun_setHigh_7 : decode b_Cun_setHigh 7 = .ok (.iconst 0, 1) := by decide +kernel
theorem d_Cun_setHigh_8 : decode b_Cun_setHigh 8 = .ok (.aload_n 2, 1) := by decide +kernel
theorem d_Cun_setHigh_9 : decode b_Cun_setHigh 9 = .ok (.getfield 44, 3) := by decide +kernel
theorem d_Cun_setHigh_12 : decode b_Cun_setHigh 12 = .ok (.iload_n 3, 1) := by decide +kernel
theorem d_Cun_setHigh_13 : decode b_Cun_setHigh 13 = .ok (.ldc 185, 2) := by decide +kernel
theorem d_Cun_setHigh_15 : decode b_Cun_setHigh 15 = .ok (.ixor, 1) := by decide +kernel
theorem d_Cun_setHigh_16 : decode b_Cun_setHigh 16 = .ok (.invokevirtual 186, 3) := by decide +kernel
theorem d_Cun_setHigh_19 : decode b_Cun_setHigh 19 = .ok (.aload_n 0, 1) := by decide +kernel
theorem d_Cun_setHigh_20 : decode b_Cun_setHigh 20 = .ok (.getfield 18, 3) := by decide +kernel
theorem d_Cun_setHigh_23 : decode b_Cun_setHigh 23 = .ok (.aload_n 1, 1) := by decide +kernel
theorem d_Cun_setHigh_24 : decode b_Cun_setHigh 24 = .ok (.getfield 86, 3) := by decide +kernel
theorem d_Cun_setHigh_27 : decode b_Cun_setHigh 27 = .ok (.invokevirtual 125, 3) := by decide +kernel
theorem d_Cun_setHigh_30 : decode b_Cun_setHigh 30 = .ok (.ireturn, 1) := by decide +kernel
theorem d_Cun_build_0 : decode b_Cun_build 0 = .ok (.aload_n 2, 1) := by decide +kernel
theorem d_Cun_build_1 : decode b_Cun_build 1 = .ok (.getfield 99, 3) := by decide +kernel
theorem d_Cun_build_4 : decode b_Cun_build 4 = .ok (.ifCond .eq 34, 3) := by decide +kernel
theorem d_Cun_build_7 : decode b_Cun_build 7 = .ok (.aload_n 2, 1) := by decide +kernel
theorem d_Cun_build_8 : decode b_Cun_build 8 = .ok (.invokevirtual 151, 3) := by decide +kernel
theorem d_Cun_build_11 : decode b_Cun_build 11 = .ok (.ifCond .eq 27, 3) := by decide +kernel
theorem d_Cun_build_14 : decode b_Cun_build 14 = .ok (.aload_n 3, 1) := by decide +kernel
theorem d_Cun_build_15 : decode b_Cun_build 15 = .ok (.getfield 82, 3) := by decide +kernel
theorem d_Cun_build_18 : decode b_Cun_build 18 = .ok (.aload_n 3, 1) := by decide +kernel
theorem d_Cun_build_19 : decode b_Cun_build 19 = .ok (.getfield 190, 3) := by decide +kernel
theorem d_Cun_build_22 : decode b_Cun_build 22 = .ok (.lcmp, 1) := by decide +kernel
theorem d_Cun_build_23 : decode b_Cun_build 23 = .ok (.ifCond .gt 15, 3) := by decide +kernel
theorem d_Cun_build_26 : decode b_Cun_build 26 = .ok (.aload_n 3, 1) := by decide +kernel
theorem d_Cun_build_27 : decode b_Cun_build 27 = .ok (.aload_n 2, 1) := by decide +kernel
theorem d_Cun_build_28 : decode b_Cun_build 28 = .ok (.invokevirtual 103, 3) := by decide +kernel
theorem d_Cun_build_31 : decode b_Cun_build 31 = .ok (.ifCond .eq 7, 3) := by decide +kernel
theorem d_Cun_build_34 : decode b_Cun_build 34 = .ok (.iconst 1, 1) := by decide +kernel
theorem d_Cun_build_35 : decode b_Cun_build 35 = .ok (.goto 4, 3) := by decide +kernel
theorem d_Cun_build_38 : decode b_Cun_build 38 = .ok (.iconst 0, 1) := by decide +kernel
theorem d_Cun_build_39 : decode b_Cun_build 39 = .ok (.istore 4, 2) := by decide +kernel
theorem d_Cun_build_41 : decode b_Cun_build 41 = .ok (.aload_n 0, 1) := by decide +kernel
theorem d_Cun_build_42 : decode b_Cun_build 42 = .ok (.getfield 18, 3) := by decide +kernel
theorem d_Cun_build_45 : decode b_Cun_build 45 = .ok (.getfield 113, 3) := by decide +kernel
theorem d_Cun_build_48 : decode b_Cun_build 48 = .ok (.aload_n 3, 1) := by decide +kernel
theorem d_Cun_build_49 : decode b_Cun_build 49 = .ok (.invokevirtual 117, 3) := by decide +kernel
theorem d_Cun_build_52 : decode b_Cun_build 52 = .ok (.aload_n 3, 1) := by decide +kernel
theorem d_Cun_build_53 : decode b_Cun_build 53 = .ok (.invokevirtual 175, 3) := by decide +kernel
theorem d_Cun_build_56 : decode b_Cun_build 56 = .ok (.bipush 14, 2) := by decide +kernel
theorem d_Cun_build_58 : decode b_Cun_build 58 = .ok (.if_icmp .eq 15, 3) := by decide +kernel
theorem d_Cun_build_61 : decode b_Cun_build 61 = .ok (.aload_n 0, 1) := by decide +kernel
theorem d_Cun_build_62 : decode b_Cun_build 62 = .ok (.getfield 18, 3) := by decide +kernel
theorem d_Cun_build_65 : decode b_Cun_build 65 = .ok (.getfield 113, 3) := by decide +kernel
theorem d_Cun_build_68 : decode b_Cun_build 68 = .ok (.bipush 15, 2) := by decide +kernel
theorem d_Cun_build_70 : decode b_Cun_build 70 = .ok (.invokevirtual 172, 3) := by decide +kernel
theorem d_Cun_build_73 : decode b_Cun_build 73 = .ok (.aload_n 0, 1) := by decide +kernel
theorem d_Cun_build_74 : decode b_Cun_build 74 = .ok (.getfield 18, 3) := by decide +kernel
theorem d_Cun_build_77 : decode b_Cun_build 77 = .ok (.getfield 113, 3) := by decide +kernel
theorem d_Cun_build_80 : decode b_Cun_build 80 = .ok (.iload 4, 2) := by decide +kernel
theorem d_Cun_build_82 : decode b_Cun_build 82 = .ok (.putfield 99, 3) := by decide +kernel
theorem d_Cun_build_85 : decode b_Cun_build 85 = .ok (.aload_n 0, 1) := by decide +kernel
theorem d_Cun_build_86 : decode b_Cun_build 86 = .ok (.getfield 18, 3) := by decide +kernel
theorem d_Cun_build_89 : decode b_Cun_build 89 = .ok (.aload_n 1, 1) := by decide +kernel
theorem d_Cun_build_90 : decode b_Cun_build 90 = .ok (.getfield 86, 3) := by decide +kernel
theorem d_Cun_build_93 : decode b_Cun_build 93 = .ok (.invokevirtual 125, 3) := by decide +kernel
theorem d_Cun_build_96 : decode b_Cun_build 96 = .ok (.ireturn, 1) := by decide +kernel
theorem d_Cun_invoke_0 : decode b_Cun_invoke 0 = .ok (.aload_n 2, 1) := by decide +kernel
theorem d_Cun_invoke_1 : decode b_Cun_invoke 1 = .ok (.getfield 44, 3) := by decide +kernel
theorem d_Cun_invoke_4 : decode b_Cun_invoke 4 = .ok (.bipush (-2), 2) := by decide +kernel
theorem d_Cun_invoke_6 : decode b_Cun_invoke 6 = .ok (.iand, 1) := by decide +kernel
theorem d_Cun_invoke_7 : decode b_Cun_invoke 7 = .ok (.istore 4, 2) := by decide +kernel
theorem d_Cun_invoke_9 : decode b_Cun_invoke 9 = .ok (.aload_n 0, 1) := by decide +kernel
theorem d_Cun_invoke_10 : decode b_Cun_invoke 10 = .ok (.aload_n 1, 1) := by decide +kernel
theorem d_Cun_invoke_11 : decode b_Cun_invoke 11 = .ok (.aload_n 2, 1) := by decide +kernel
theorem d_Cun_invoke_12 : decode b_Cun_invoke 12 = .ok (.aload_n 3, 1) := by decide +kernel
theorem d_Cun_invoke_13 : decode b_Cun_invoke 13 = .ok (.invokevirtual 193, 3) := by decide +kernel
theorem d_Cun_invoke_16 : decode b_Cun_invoke 16 = .ok (.istore 5, 2) := by decide +kernel
theorem d_Cun_invoke_18 : decode b_Cun_invoke 18 = .ok (.iload 5, 2) := by decide +kernel
theorem d_Cun_invoke_20 : decode b_Cun_invoke 20 = .ok (.iconst (-1), 1) := by decide +kernel
theorem d_Cun_invoke_21 : decode b_Cun_invoke 21 = .ok (.if_icmp .eq 6, 3) := by decide +kernel
theorem d_Cun_invoke_24 : decode b_Cun_invoke 24 = .ok (.iload 5, 2) := by decide +kernel
theorem d_Cun_invoke_26 : decode b_Cun_invoke 26 = .ok (.ireturn, 1) := by decide +kernel
theorem d_Cun_invoke_27 : decode b_Cun_invoke 27 = .ok (.aload_n 2, 1) := by decide +kernel
theorem d_Cun_invoke_28 : decode b_Cun_invoke 28 = .ok (.iload 4, 2) := by decide +kernel
theorem d_Cun_invoke_30 : decode b_Cun_invoke 30 = .ok (.ldc2_w 196, 3) := by decide +kernel
theorem d_Cun_invoke_33 : decode b_Cun_invoke 33 = .ok (.invokevirtual 155, 3) := by decide +kernel
theorem d_Cun_invoke_36 : decode b_Cun_invoke 36 = .ok (.ifCond .ne 16, 3) := by decide +kernel
theorem d_Cun_invoke_39 : decode b_Cun_invoke 39 = .ok (.aload_n 0, 1) := by decide +kernel
theorem d_Cun_invoke_40 : decode b_Cun_invoke 40 = .ok (.getfield 18, 3) := by decide +kernel
theorem d_Cun_invoke_43 : decode b_Cun_invoke 43 = .ok (.aload_n 1, 1) := by decide +kernel
theorem d_Cun_invoke_44 : decode b_Cun_invoke 44 = .ok (.getfield 28, 3) := by decide +kernel
theorem d_Cun_invoke_47 : decode b_Cun_invoke 47 = .ok (.iconst 1, 1) := by decide +kernel
theorem d_Cun_invoke_48 : decode b_Cun_invoke 48 = .ok (.invokevirtual 136, 3) := by decide +kernel
theorem d_Cun_invoke_51 : decode b_Cun_invoke 51 = .ok (.ireturn, 1) := by decide +kernel
theorem d_Cun_invoke_52 : decode b_Cun_invoke 52 = .ok (.iload 4, 2) := by decide +kernel
theorem d_Cun_invoke_54 : decode b_Cun_invoke 54 = .ok (.iconst 3, 1) := by decide +kernel
theorem d_Cun_invoke_55 : decode b_Cun_invoke 55 = .ok (.iand, 1) := by decide +kernel
theorem d_Cun_invoke_56 : decode b_Cun_invoke 56 = .ok (.ifCond .eq 14, 3) := by decide +kernel
theorem d_Cun_invoke_59 : decode b_Cun_invoke 59 = .ok (.aload_n 0, 1) := by decide +kernel
theorem d_Cun_invoke_60 : decode b_Cun_invoke 60 = .ok (.getfield 18, 3) := by decide +kernel
theorem d_Cun_invoke_63 : decode b_Cun_invoke 63 = .ok (.iconst 0, 1) := by decide +kernel
theorem d_Cun_invoke_64 : decode b_Cun_invoke 64 = .ok (.iload 4, 2) := by decide +kernel
theorem d_Cun_invoke_66 : decode b_Cun_invoke 66 = .ok (.invokevirtual 198, 3) := by decide +kernel
theorem d_Cun_invoke_69 : decode b_Cun_invoke 69 = .ok (.ireturn, 1) := by decide +kernel
theorem d_Cun_invoke_70 : decode b_Cun_invoke 70 = .ok (.aload_n 0, 1) := by decide +kernel
theorem d_Cun_invoke_71 : decode b_Cun_invoke 71 = .ok (.getfield 18, 3) := by decide +kernel
theorem d_Cun_invoke_74 : decode b_Cun_invoke 74 = .ok (.getfield 129, 3) := by decide +kernel
theorem d_Cun_invoke_77 : decode b_Cun_invoke 77 = .ok (.aload_n 2, 1) := by decide +kernel
theorem d_Cun_invoke_78 : decode b_Cun_invoke 78 = .ok (.invokevirtual 117, 3) := by decide +kernel
theorem d_Cun_invoke_81 : decode b_Cun_invoke 81 = .ok (.aload_n 0, 1) := by decide +kernel
theorem d_Cun_invoke_82 : decode b_Cun_invoke 82 = .ok (.getfield 18, 3) := by decide +kernel
theorem d_Cun_invoke_85 : decode b_Cun_invoke 85 = .ok (.getfield 129, 3) := by decide +kernel
theorem d_Cun_invoke_88 : decode b_Cun_invoke 88 = .ok (.bipush 15, 2) := by decide +kernel
theorem d_Cun_invoke_90 : decode b_Cun_invoke 90 = .ok (.invokevirtual 172, 3) := by decide +kernel
theorem d_Cun_invoke_93 : decode b_Cun_invoke 93 = .ok (.aload_n 0, 1) := by decide +kernel
theorem d_Cun_invoke_94 : decode b_Cun_invoke 94 = .ok (.getfield 18, 3) := by decide +kernel
theorem d_Cun_invoke_97 : decode b_Cun_invoke 97 = .ok (.getfield 129, 3) := by decide +kernel
theorem d_Cun_invoke_100 : decode b_Cun_invoke 100 = .ok (.iload 4, 2) := by decide +kernel
theorem d_Cun_invoke_102 : decode b_Cun_invoke 102 = .ok (.invokevirtual 121, 3) := by decide +kernel
theorem d_Cun_invoke_105 : decode b_Cun_invoke 105 = .ok (.aload_n 0, 1) := by decide +kernel
theorem d_Cun_invoke_106 : decode b_Cun_invoke 106 = .ok (.getfield 18, 3) := by decide +kernel
theorem d_Cun_invoke_109 : decode b_Cun_invoke 109 = .ok (.getfield 113, 3) := by decide +kernel
theorem d_Cun_invoke_112 : decode b_Cun_invoke 112 = .ok (.aload_n 3, 1) := by decide +kernel
theorem d_Cun_invoke_113 : decode b_Cun_invoke 113 = .ok (.invokevirtual 117, 3) := by decide +kernel
theorem d_Cun_invoke_116 : decode b_Cun_invoke 116 = .ok (.aload_n 0, 1) := by decide +kernel
theorem d_Cun_invoke_117 : decode b_Cun_invoke 117 = .ok (.getfield 18, 3) := by decide +kernel
theorem d_Cun_invoke_120 : decode b_Cun_invoke 120 = .ok (.getfield 113, 3) := by decide +kernel
theorem d_Cun_invoke_123 : decode b_Cun_invoke 123 = .ok (.bipush 15, 2) := by decide +kernel
theorem d_Cun_invoke_125 : decode b_Cun_invoke 125 = .ok (.invokevirtual 172, 3) := by decide +kernel
theorem d_Cun_invoke_128 : decode b_Cun_invoke 128 = .ok (.aload_n 0, 1) := by decide +kernel
theorem d_Cun_invoke_129 : decode b_Cun_invoke 129 = .ok (.getfield 18, 3) := by decide +kernel
theorem d_Cun_invoke_132 : decode b_Cun_invoke 132 = .ok (.bipush 31, 2) := by decide +kernel
theorem d_Cun_invoke_134 : decode b_Cun_invoke 134 = .ok (.invokevirtual 125, 3) := by decide +kernel
theorem d_Cun_invoke_137 : decode b_Cun_invoke 137 = .ok (.pop, 1) := by decide +kernel
theorem d_Cun_invoke_138 : decode b_Cun_invoke 138 = .ok (.bipush (-2), 2) := by decide +kernel
theorem d_Cun_invoke_140 : decode b_Cun_invoke 140 = .ok (.ireturn, 1) := by decide +kernel
theorem d_Cun_invokeFault_0 : decode b_Cun_invokeFault 0 = .ok (.aload_n 2, 1) := by decide +kernel
theorem d_Cun_invokeFault_1 : decode b_Cun_invokeFault 1 = .ok (.getfield 99, 3) := by decide +kernel
theorem d_Cun_invokeFault_4 : decode b_Cun_invokeFault 4 = .ok (.ifCond .eq 10, 3) := by decide +kernel
theorem d_Cun_invokeFault_7 : decode b_Cun_invokeFault 7 = .ok (.aload_n 3, 1) := by decide +kernel
theorem d_Cun_invokeFault_8 : decode b_Cun_invokeFault 8 = .ok (.getfield 99, 3) := by decide +kernel
theorem d_Cun_invokeFault_11 : decode b_Cun_invokeFault 11 = .ok (.ifCond .ne 30, 3) := by decide +kernel
theorem d_Cun_invokeFault_14 : decode b_Cun_invokeFault 14 = .ok (.aload_n 0, 1) := by decide +kernel
theorem d_Cun_invokeFault_15 : decode b_Cun_invokeFault 15 = .ok (.getfield 18, 3) := by decide +kernel
theorem d_Cun_invokeFault_18 : decode b_Cun_invokeFault 18 = .ok (.aload_n 2, 1) := by decide +kernel
theorem d_Cun_invokeFault_19 : decode b_Cun_invokeFault 19 = .ok (.getfield 99, 3) := by decide +kernel
theorem d_Cun_invokeFault_22 : decode b_Cun_invokeFault 22 = .ok (.ifCond .eq 10, 3) := by decide +kernel
theorem d_Cun_invokeFault_25 : decode b_Cun_invokeFault 25 = .ok (.aload_n 1, 1) := by decide +kernel
theorem d_Cun_invokeFault_26 : decode b_Cun_invokeFault 26 = .ok (.getfield 37, 3) := by decide +kernel
theorem d_Cun_invokeFault_29 : decode b_Cun_invokeFault 29 = .ok (.goto 7, 3) := by decide +kernel
theorem d_Cun_invokeFault_32 : decode b_Cun_invokeFault 32 = .ok (.aload_n 1, 1) := by decide +kernel
theorem d_Cun_invokeFault_33 : decode b_Cun_invokeFault 33 = .ok (.getfield 28, 3) := by decide +kernel
theorem d_Cun_invokeFault_36 : decode b_Cun_invokeFault 36 = .ok (.iconst 2, 1) := by decide +kernel
theorem d_Cun_invokeFault_37 : decode b_Cun_invokeFault 37 = .ok (.invokevirtual 136, 3) := by decide +kernel
theorem d_Cun_invokeFault_40 : decode b_Cun_invokeFault 40 = .ok (.ireturn, 1) := by decide +kernel
theorem d_Cun_invokeFault_41 : decode b_Cun_invokeFault 41 = .ok (.aload_n 2, 1) := by decide +kernel
theorem d_Cun_invokeFault_42 : decode b_Cun_invokeFault 42 = .ok (.invokevirtual 175, 3) := by decide +kernel
theorem d_Cun_invokeFault_45 : decode b_Cun_invokeFault 45 = .ok (.bipush 12, 2) := by decide +kernel
theorem d_Cun_invokeFault_47 : decode b_Cun_invokeFault 47 = .ok (.if_icmp .ge 7, 3) := by decide +kernel
theorem d_Cun_invokeFault_50 : decode b_Cun_invokeFault 50 = .ok (.iconst 1, 1) := by decide +kernel
theorem d_Cun_invokeFault_51 : decode b_Cun_invokeFault 51 = .ok (.goto 4, 3) := by decide +kernel
theorem d_Cun_invokeFault_54 : decode b_Cun_invokeFault 54 = .ok (.iconst 0, 1) := by decide +kernel
theorem d_Cun_invokeFault_55 : decode b_Cun_invokeFault 55 = .ok (.istore 4, 2) := by decide +kernel
theorem d_Cun_invokeFault_57 : decode b_Cun_invokeFault 57 = .ok (.iload 4, 2) := by decide +kernel
theorem d_Cun_invokeFault_59 : decode b_Cun_invokeFault 59 = .ok (.ifCond .eq 12, 3) := by decide +kernel
theorem d_Cun_invokeFault_62 : decode b_Cun_invokeFault 62 = .ok (.aload_n 3, 1) := by decide +kernel
theorem d_Cun_invokeFault_63 : decode b_Cun_invokeFault 63 = .ok (.invokevirtual 175, 3) := by decide +kernel
theorem d_Cun_invokeFault_66 : decode b_Cun_invokeFault 66 = .ok (.bipush 12, 2) := by decide +kernel
theorem d_Cun_invokeFault_68 : decode b_Cun_invokeFault 68 = .ok (.if_icmp .lt 28, 3) := by decide +kernel
theorem d_Cun_invokeFault_71 : decode b_Cun_invokeFault 71 = .ok (.aload_n 0, 1) := by decide +kernel
theorem d_Cun_invokeFault_72 : decode b_Cun_invokeFault 72 = .ok (.getfield 18, 3) := by decide +kernel
theorem d_Cun_invokeFault_75 : decode b_Cun_invokeFault 75 = .ok (.iload 4, 2) := by decide +kernel
theorem d_Cun_invokeFault_77 : decode b_Cun_invokeFault 77 = .ok (.ifCond .eq 10, 3) := by decide +kernel
theorem d_Cun_invokeFault_80 : decode b_Cun_invokeFault 80 = .ok (.aload_n 1, 1) := by decide +kernel
theorem d_Cun_invokeFault_81 : decode b_Cun_invokeFault 81 = .ok (.getfield 37, 3) := by decide +kernel
theorem d_Cun_invokeFault_84 : decode b_Cun_invokeFault 84 = .ok (.goto 7, 3) := by decide +kernel
theorem d_Cun_invokeFault_87 : decode b_Cun_invokeFault 87 = .ok (.aload_n 1, 1) := by decide +kernel
theorem d_Cun_invokeFault_88 : decode b_Cun_invokeFault 88 = .ok (.getfield 28, 3) := by decide +kernel
theorem d_Cun_invokeFault_91 : decode b_Cun_invokeFault 91 = .ok (.iconst 3, 1) := by decide +kernel
theorem d_Cun_invokeFault_92 : decode b_Cun_invokeFault 92 = .ok (.invokevirtual 136, 3) := by decide +kernel
theorem d_Cun_invokeFault_95 : decode b_Cun_invokeFault 95 = .ok (.ireturn, 1) := by decide +kernel
theorem d_Cun_invokeFault_96 : decode b_Cun_invokeFault 96 = .ok (.aload_n 2, 1) := by decide +kernel
theorem d_Cun_invokeFault_97 : decode b_Cun_invokeFault 97 = .ok (.invokevirtual 175, 3) := by decide +kernel
theorem d_Cun_invokeFault_100 : decode b_Cun_invokeFault 100 = .ok (.aload_n 3, 1) := by decide +kernel
theorem d_Cun_invokeFault_101 : decode b_Cun_invokeFault 101 = .ok (.invokevirtual 175, 3) := by decide +kernel
theorem d_Cun_invokeFault_104 : decode b_Cun_invokeFault 104 = .ok (.if_icmp .eq 16, 3) := by decide +kernel
theorem d_Cun_invokeFault_107 : decode b_Cun_invokeFault 107 = .ok (.aload_n 0, 1) := by decide +kernel
theorem d_Cun_invokeFault_108 : decode b_Cun_invokeFault 108 = .ok (.getfield 18, 3) := by decide +kernel
theorem d_Cun_invokeFault_111 : decode b_Cun_invokeFault 111 = .ok (.aload_n 1, 1) := by decide +kernel
theorem d_Cun_invokeFault_112 : decode b_Cun_invokeFault 112 = .ok (.getfield 28, 3) := by decide +kernel
theorem d_Cun_invokeFault_115 : decode b_Cun_invokeFault 115 = .ok (.iconst 4, 1) := by decide +kernel
theorem d_Cun_invokeFault_116 : decode b_Cun_invokeFault 116 = .ok (.invokevirtual 136, 3) := by decide +kernel
theorem d_Cun_invokeFault_119 : decode b_Cun_invokeFault 119 = .ok (.ireturn, 1) := by decide +kernel
theorem d_Cun_invokeFault_120 : decode b_Cun_invokeFault 120 = .ok (.aload_n 2, 1) := by decide +kernel
theorem d_Cun_invokeFault_121 : decode b_Cun_invokeFault 121 = .ok (.bipush 8, 2) := by decide +kernel
theorem d_Cun_invokeFault_123 : decode b_Cun_invokeFault 123 = .ok (.invokevirtual 132, 3) := by decide +kernel
theorem d_Cun_invokeFault_126 : decode b_Cun_invokeFault 126 = .ok (.ifCond .eq 12, 3) := by decide +kernel
theorem d_Cun_invokeFault_129 : decode b_Cun_invokeFault 129 = .ok (.aload_n 3, 1) := by decide +kernel
theorem d_Cun_invokeFault_130 : decode b_Cun_invokeFault 130 = .ok (.bipush 8, 2) := by decide +kernel
theorem d_Cun_invokeFault_132 : decode b_Cun_invokeFault 132 = .ok (.invokevirtual 132, 3) := by decide +kernel
theorem d_Cun_invokeFault_135 : decode b_Cun_invokeFault 135 = .ok (.ifCond .ne 33, 3) := by decide +kernel
theorem d_Cun_invokeFault_138 : decode b_Cun_invokeFault 138 = .ok (.aload_n 0, 1) := by decide +kernel
theorem d_Cun_invokeFault_139 : decode b_Cun_invokeFault 139 = .ok (.getfield 18, 3) := by decide +kernel
theorem d_Cun_invokeFault_142 : decode b_Cun_invokeFault 142 = .ok (.aload_n 2, 1) := by decide +kernel
theorem d_Cun_invokeFault_143 : decode b_Cun_invokeFault 143 = .ok (.bipush 8, 2) := by decide +kernel
theorem d_Cun_invokeFault_145 : decode b_Cun_invokeFault 145 = .ok (.invokevirtual 132, 3) := by decide +kernel
theorem d_Cun_invokeFault_148 : decode b_Cun_invokeFault 148 = .ok (.ifCond .eq 10, 3) := by decide +kernel
theorem d_Cun_invokeFault_151 : decode b_Cun_invokeFault 151 = .ok (.aload_n 1, 1) := by decide +kernel
theorem d_Cun_invokeFault_152 : decode b_Cun_invokeFault 152 = .ok (.getfield 37, 3) := by decide +kernel
theorem d_Cun_invokeFault_155 : decode b_Cun_invokeFault 155 = .ok (.goto 7, 3) := by decide +kernel
theorem d_Cun_invokeFault_158 : decode b_Cun_invokeFault 158 = .ok (.aload_n 1, 1) := by decide +kernel
theorem d_Cun_invokeFault_159 : decode b_Cun_invokeFault 159 = .ok (.getfield 28, 3) := by decide +kernel
theorem d_Cun_invokeFault_162 : decode b_Cun_invokeFault 162 = .ok (.bipush 25, 2) := by decide +kernel
theorem d_Cun_invokeFault_164 : decode b_Cun_invokeFault 164 = .ok (.invokevirtual 136, 3) := by decide +kernel
theorem d_Cun_invokeFault_167 : decode b_Cun_invokeFault 167 = .ok (.ireturn, 1) := by decide +kernel
theorem d_Cun_invokeFault_168 : decode b_Cun_invokeFault 168 = .ok (.aload_n 2, 1) := by decide +kernel
theorem d_Cun_invokeFault_169 : decode b_Cun_invokeFault 169 = .ok (.iconst 1, 1) := by decide +kernel
theorem d_Cun_invokeFault_170 : decode b_Cun_invokeFault 170 = .ok (.invokevirtual 132, 3) := by decide +kernel
theorem d_Cun_invokeFault_173 : decode b_Cun_invokeFault 173 = .ok (.ifCond .eq 11, 3) := by decide +kernel
theorem d_Cun_invokeFault_176 : decode b_Cun_invokeFault 176 = .ok (.aload_n 3, 1) := by decide +kernel
theorem d_Cun_invokeFault_177 : decode b_Cun_invokeFault 177 = .ok (.iconst 1, 1) := by decide +kernel
theorem d_Cun_invokeFault_178 : decode b_Cun_invokeFault 178 = .ok (.invokevirtual 132, 3) := by decide +kernel
theorem d_Cun_invokeFault_181 : decode b_Cun_invokeFault 181 = .ok (.ifCond .eq 32, 3) := by decide +kernel
theorem d_Cun_invokeFault_184 : decode b_Cun_invokeFault 184 = .ok (.aload_n 0, 1) := by decide +kernel
theorem d_Cun_invokeFault_185 : decode b_Cun_invokeFault 185 = .ok (.getfield 18, 3) := by decide +kernel
theorem d_Cun_invokeFault_188 : decode b_Cun_invokeFault 188 = .ok (.aload_n 2, 1) := by decide +kernel
theorem d_Cun_invokeFault_189 : decode b_Cun_invokeFault 189 = .ok (.iconst 1, 1) := by decide +kernel
theorem d_Cun_invokeFault_190 : decode b_Cun_invokeFault 190 = .ok (.invokevirtual 132, 3) := by decide +kernel
theorem d_Cun_invokeFault_193 : decode b_Cun_invokeFault 193 = .ok (.ifCond .eq 10, 3) := by decide +kernel
theorem d_Cun_invokeFault_196 : decode b_Cun_invokeFault 196 = .ok (.aload_n 1, 1) := by decide +kernel
theorem d_Cun_invokeFault_197 : decode b_Cun_invokeFault 197 = .ok (.getfield 37, 3) := by decide +kernel
theorem d_Cun_invokeFault_200 : decode b_Cun_invokeFault 200 = .ok (.goto 7, 3) := by decide +kernel
theorem d_Cun_invokeFault_203 : decode b_Cun_invokeFault 203 = .ok (.aload_n 1, 1) := by decide +kernel
theorem d_Cun_invokeFault_204 : decode b_Cun_invokeFault 204 = .ok (.getfield 28, 3) := by decide +kernel
theorem d_Cun_invokeFault_207 : decode b_Cun_invokeFault 207 = .ok (.bipush 17, 2) := by decide +kernel
theorem d_Cun_invokeFault_209 : decode b_Cun_invokeFault 209 = .ok (.invokevirtual 136, 3) := by decide +kernel
theorem d_Cun_invokeFault_212 : decode b_Cun_invokeFault 212 = .ok (.ireturn, 1) := by decide +kernel
theorem d_Cun_invokeFault_213 : decode b_Cun_invokeFault 213 = .ok (.iconst (-1), 1) := by decide +kernel
theorem d_Cun_invokeFault_214 : decode b_Cun_invokeFault 214 = .ok (.ireturn, 1) := by decide +kernel
theorem d_Cun_inspect_0 : decode b_Cun_inspect 0 = .ok (.aload_n 1, 1) := by decide +kernel
theorem d_Cun_inspect_1 : decode b_Cun_inspect 1 = .ok (.getfield 37, 3) := by decide +kernel
theorem d_Cun_inspect_4 : decode b_Cun_inspect 4 = .ok (.tableswitch 346 0 23 #[112, 128, 163, 180, 196, 220, 244, 346, 266, 277, 288, 299, 346, 346, 346, 307, 346, 323, 346, 346, 346, 346, 346, 330], 112) := by decide +kernel
theorem d_Cun_inspect_116 : decode b_Cun_inspect 116 = .ok (.aload_n 0, 1) := by decide +kernel
theorem d_Cun_inspect_117 : decode b_Cun_inspect 117 = .ok (.getfield 18, 3) := by decide +kernel
theorem d_Cun_inspect_120 : decode b_Cun_inspect 120 = .ok (.aload_n 1, 1) := by decide +kernel
theorem d_Cun_inspect_121 : decode b_Cun_inspect 121 = .ok (.getfield 86, 3) := by decide +kernel
theorem d_Cun_inspect_124 : decode b_Cun_inspect 124 = .ok (.aload_n 2, 1) := by decide +kernel
theorem d_Cun_inspect_125 : decode b_Cun_inspect 125 = .ok (.invokevirtual 179, 3) := by decide +kernel
theorem d_Cun_inspect_128 : decode b_Cun_inspect 128 = .ok (.invokevirtual 89, 3) := by decide +kernel
theorem d_Cun_inspect_131 : decode b_Cun_inspect 131 = .ok (.ireturn, 1) := by decide +kernel
theorem d_Cun_inspect_132 : decode b_Cun_inspect 132 = .ok (.aload_n 0, 1) := by decide +kernel
theorem d_Cun_inspect_133 : decode b_Cun_inspect 133 = .ok (.getfield 18, 3) := by decide +kernel
theorem d_Cun_inspect_136 : decode b_Cun_inspect 136 = .ok (.aload_n 1, 1) := by decide +kernel
theorem d_Cun_inspect_137 : decode b_Cun_inspect 137 = .ok (.getfield 86, 3) := by decide +kernel
theorem d_Cun_inspect_140 : decode b_Cun_inspect 140 = .ok (.aload_n 2, 1) := by decide +kernel
theorem d_Cun_inspect_141 : decode b_Cun_inspect 141 = .ok (.invokevirtual 175, 3) := by decide +kernel
theorem d_Cun_inspect_144 : decode b_Cun_inspect 144 = .ok (.bipush 14, 2) := by decide +kernel
theorem d_Cun_inspect_146 : decode b_Cun_inspect 146 = .ok (.if_icmp .lt 13, 3) := by decide +kernel
theorem d_Cun_inspect_149 : decode b_Cun_inspect 149 = .ok (.aload_n 2, 1) := by decide +kernel
theorem d_Cun_inspect_150 : decode b_Cun_inspect 150 = .ok (.invokevirtual 175, 3) := by decide +kernel
theorem d_Cun_inspect_153 : decode b_Cun_inspect 153 = .ok (.bipush 16, 2) := by decide +kernel
theorem d_Cun_inspect_155 : decode b_Cun_inspect 155 = .ok (.isub, 1) := by decide +kernel
theorem d_Cun_inspect_156 : decode b_Cun_inspect 156 = .ok (.goto 7, 3) := by decide +kernel
theorem d_Cun_inspect_159 : decode b_Cun_inspect 159 = .ok (.aload_n 2, 1) := by decide +kernel
theorem d_Cun_inspect_160 : decode b_Cun_inspect 160 = .ok (.invokevirtual 175, 3) := by decide +kernel
theorem d_Cun_inspect_163 : decode b_Cun_inspect 163 = .ok (.invokevirtual 89, 3) := by decide +kernel
theorem d_Cun_inspect_166 : decode b_Cun_inspect 166 = .ok (.ireturn, 1) := by decide +kernel
theorem d_Cun_inspect_167 : decode b_Cun_inspect 167 = .ok (.aload_n 0, 1) := by decide +kernel
theorem d_Cun_inspect_168 : decode b_Cun_inspect 168 = .ok (.getfield 18, 3) := by decide +kernel
theorem d_Cun_inspect_171 : decode b_Cun_inspect 171 = .ok (.aload_n 1, 1) := by decide +kernel
theorem d_Cun_inspect_172 : decode b_Cun_inspect 172 = .ok (.getfield 86, 3) := by decide +kernel
theorem d_Cun_inspect_175 : decode b_Cun_inspect 175 = .ok (.aload_n 2, 1) := by decide +kernel
theorem d_Cun_inspect_176 : decode b_Cun_inspect 176 = .ok (.getfield 82, 3) := by decide +kernel
theorem d_Cun_inspect_179 : decode b_Cun_inspect 179 = .ok (.l2i, 1) := by decide +kernel
theorem d_Cun_inspect_180 : decode b_Cun_inspect 180 = .ok (.invokevirtual 89, 3) := by decide +kernel
theorem d_Cun_inspect_183 : decode b_Cun_inspect 183 = .ok (.ireturn, 1) := by decide +kernel
theorem d_Cun_inspect_184 : decode b_Cun_inspect 184 = .ok (.aload_n 0, 1) := by decide +kernel
theorem d_Cun_inspect_185 : decode b_Cun_inspect 185 = .ok (.getfield 18, 3) := by decide +kernel
theorem d_Cun_inspect_188 : decode b_Cun_inspect 188 = .ok (.aload_n 1, 1) := by decide +kernel
theorem d_Cun_inspect_189 : decode b_Cun_inspect 189 = .ok (.getfield 86, 3) := by decide +kernel
theorem d_Cun_inspect_192 : decode b_Cun_inspect 192 = .ok (.aload_n 2, 1) := by decide +kernel
theorem d_Cun_inspect_193 : decode b_Cun_inspect 193 = .ok (.invokevirtual 201, 3) := by decide +kernel
theorem d_Cun_inspect_196 : decode b_Cun_inspect 196 = .ok (.invokevirtual 89, 3) := by decide +kernel
theorem d_Cun_inspect_199 : decode b_Cun_inspect 199 = .ok (.ireturn, 1) := by decide +kernel
theorem d_Cun_inspect_200 : decode b_Cun_inspect 200 = .ok (.aload_n 0, 1) := by decide +kernel
theorem d_Cun_inspect_201 : decode b_Cun_inspect 201 = .ok (.getfield 18, 3) := by decide +kernel
theorem d_Cun_inspect_204 : decode b_Cun_inspect 204 = .ok (.aload_n 1, 1) := by decide +kernel
theorem d_Cun_inspect_205 : decode b_Cun_inspect 205 = .ok (.getfield 86, 3) := by decide +kernel
theorem d_Cun_inspect_208 : decode b_Cun_inspect 208 = .ok (.aload_n 2, 1) := by decide +kernel
theorem d_Cun_inspect_209 : decode b_Cun_inspect 209 = .ok (.getfield 99, 3) := by decide +kernel
theorem d_Cun_inspect_212 : decode b_Cun_inspect 212 = .ok (.ifCond .eq 7, 3) := by decide +kernel
theorem d_Cun_inspect_215 : decode b_Cun_inspect 215 = .ok (.iconst 1, 1) := by decide +kernel
theorem d_Cun_inspect_216 : decode b_Cun_inspect 216 = .ok (.goto 4, 3) := by decide +kernel
theorem d_Cun_inspect_219 : decode b_Cun_inspect 219 = .ok (.iconst 0, 1) := by decide +kernel
theorem d_Cun_inspect_220 : decode b_Cun_inspect 220 = .ok (.invokevirtual 89, 3) := by decide +kernel
theorem d_Cun_inspect_223 : decode b_Cun_inspect 223 = .ok (.ireturn, 1) := by decide +kernel
theorem d_Cun_inspect_224 : decode b_Cun_inspect 224 = .ok (.aload_n 0, 1) := by decide +kernel
theorem d_Cun_inspect_225 : decode b_Cun_inspect 225 = .ok (.getfield 18, 3) := by decide +kernel
theorem d_Cun_inspect_228 : decode b_Cun_inspect 228 = .ok (.aload_n 1, 1) := by decide +kernel
theorem d_Cun_inspect_229 : decode b_Cun_inspect 229 = .ok (.getfield 86, 3) := by decide +kernel
theorem d_Cun_inspect_232 : decode b_Cun_inspect 232 = .ok (.aload_n 2, 1) := by decide +kernel
theorem d_Cun_inspect_233 : decode b_Cun_inspect 233 = .ok (.invokevirtual 151, 3) := by decide +kernel
theorem d_Cun_inspect_236 : decode b_Cun_inspect 236 = .ok (.ifCond .eq 7, 3) := by decide +kernel
theorem d_Cun_inspect_239 : decode b_Cun_inspect 239 = .ok (.iconst 0, 1) := by decide +kernel
theorem d_Cun_inspect_240 : decode b_Cun_inspect 240 = .ok (.goto 4, 3) := by decide +kernel
theorem d_Cun_inspect_243 : decode b_Cun_inspect 243 = .ok (.iconst 1, 1) := by decide +kernel
theorem d_Cun_inspect_244 : decode b_Cun_inspect 244 = .ok (.invokevirtual 89, 3) := by decide +kernel
theorem d_Cun_inspect_247 : decode b_Cun_inspect 247 = .ok (.ireturn, 1) := by decide +kernel
theorem d_Cun_inspect_248 : decode b_Cun_inspect 248 = .ok (.aload_n 0, 1) := by decide +kernel
theorem d_Cun_inspect_249 : decode b_Cun_inspect 249 = .ok (.getfield 18, 3) := by decide +kernel
theorem d_Cun_inspect_252 : decode b_Cun_inspect 252 = .ok (.aload_n 1, 1) := by decide +kernel
theorem d_Cun_inspect_253 : decode b_Cun_inspect 253 = .ok (.getfield 86, 3) := by decide +kernel
theorem d_Cun_inspect_256 : decode b_Cun_inspect 256 = .ok (.aload_n 2, 1) := by decide +kernel
theorem d_Cun_inspect_257 : decode b_Cun_inspect 257 = .ok (.getfield 44, 3) := by decide +kernel
theorem d_Cun_inspect_260 : decode b_Cun_inspect 260 = .ok (.aload_n 2, 1) := by decide +kernel
theorem d_Cun_inspect_261 : decode b_Cun_inspect 261 = .ok (.getfield 82, 3) := by decide +kernel
theorem d_Cun_inspect_264 : decode b_Cun_inspect 264 = .ok (.l2i, 1) := by decide +kernel
theorem d_Cun_inspect_265 : decode b_Cun_inspect 265 = .ok (.isub, 1) := by decide +kernel
theorem d_Cun_inspect_266 : decode b_Cun_inspect 266 = .ok (.invokevirtual 89, 3) := by decide +kernel
theorem d_Cun_inspect_269 : decode b_Cun_inspect 269 = .ok (.ireturn, 1) := by decide +kernel
theorem d_Cun_inspect_270 : decode b_Cun_inspect 270 = .ok (.aload_n 0, 1) := by decide +kernel
theorem d_Cun_inspect_271 : decode b_Cun_inspect 271 = .ok (.aload_n 1, 1) := by decide +kernel
theorem d_Cun_inspect_272 : decode b_Cun_inspect 272 = .ok (.aload_n 2, 1) := by decide +kernel
theorem d_Cun_inspect_273 : decode b_Cun_inspect 273 = .ok (.getfield 44, 3) := by decide +kernel
theorem d_Cun_inspect_276 : decode b_Cun_inspect 276 = .ok (.iconst 0, 1) := by decide +kernel
theorem d_Cun_inspect_277 : decode b_Cun_inspect 277 = .ok (.invokevirtual 204, 3) := by decide +kernel
theorem d_Cun_inspect_280 : decode b_Cun_inspect 280 = .ok (.ireturn, 1) := by decide +kernel
theorem d_Cun_inspect_281 : decode b_Cun_inspect 281 = .ok (.aload_n 0, 1) := by decide +kernel
theorem d_Cun_inspect_282 : decode b_Cun_inspect 282 = .ok (.aload_n 1, 1) := by decide +kernel
theorem d_Cun_inspect_283 : decode b_Cun_inspect 283 = .ok (.aload_n 2, 1) := by decide +kernel
theorem d_Cun_inspect_284 : decode b_Cun_inspect 284 = .ok (.getfield 44, 3) := by decide +kernel
theorem d_Cun_inspect_287 : decode b_Cun_inspect 287 = .ok (.iconst 1, 1) := by decide +kernel
theorem d_Cun_inspect_288 : decode b_Cun_inspect 288 = .ok (.invokevirtual 204, 3) := by decide +kernel
theorem d_Cun_inspect_291 : decode b_Cun_inspect 291 = .ok (.ireturn, 1) := by decide +kernel
theorem d_Cun_inspect_292 : decode b_Cun_inspect 292 = .ok (.aload_n 0, 1) := by decide +kernel
theorem d_Cun_inspect_293 : decode b_Cun_inspect 293 = .ok (.aload_n 1, 1) := by decide +kernel
theorem d_Cun_inspect_294 : decode b_Cun_inspect 294 = .ok (.aload_n 2, 1) := by decide +kernel
theorem d_Cun_inspect_295 : decode b_Cun_inspect 295 = .ok (.aload_n 2, 1) := by decide +kernel
theorem d_Cun_inspect_296 : decode b_Cun_inspect 296 = .ok (.getfield 99, 3) := by decide +kernel
theorem d_Cun_inspect_299 : decode b_Cun_inspect 299 = .ok (.invokevirtual 208, 3) := by decide +kernel
theorem d_Cun_inspect_302 : decode b_Cun_inspect 302 = .ok (.ireturn, 1) := by decide +kernel
theorem d_Cun_inspect_303 : decode b_Cun_inspect 303 = .ok (.aload_n 0, 1) := by decide +kernel
theorem d_Cun_inspect_304 : decode b_Cun_inspect 304 = .ok (.aload_n 1, 1) := by decide +kernel
theorem d_Cun_inspect_305 : decode b_Cun_inspect 305 = .ok (.aload_n 2, 1) := by decide +kernel
theorem d_Cun_inspect_306 : decode b_Cun_inspect 306 = .ok (.iconst 0, 1) := by decide +kernel
theorem d_Cun_inspect_307 : decode b_Cun_inspect 307 = .ok (.invokevirtual 208, 3) := by decide +kernel
theorem d_Cun_inspect_310 : decode b_Cun_inspect 310 = .ok (.ireturn, 1) := by decide +kernel
theorem d_Cun_inspect_311 : decode b_Cun_inspect 311 = .ok (.aload_n 0, 1) := by decide +kernel
theorem d_Cun_inspect_312 : decode b_Cun_inspect 312 = .ok (.getfield 18, 3) := by decide +kernel
theorem d_Cun_inspect_315 : decode b_Cun_inspect 315 = .ok (.aload_n 1, 1) := by decide +kernel
theorem d_Cun_inspect_316 : decode b_Cun_inspect 316 = .ok (.getfield 86, 3) := by decide +kernel
theorem d_Cun_inspect_319 : decode b_Cun_inspect 319 = .ok (.aload_n 2, 1) := by decide +kernel
theorem d_Cun_inspect_320 : decode b_Cun_inspect 320 = .ok (.getfield 44, 3) := by decide +kernel
theorem d_Cun_inspect_323 : decode b_Cun_inspect 323 = .ok (.invokevirtual 89, 3) := by decide +kernel
theorem d_Cun_inspect_326 : decode b_Cun_inspect 326 = .ok (.ireturn, 1) := by decide +kernel
theorem d_Cun_inspect_327 : decode b_Cun_inspect 327 = .ok (.aload_n 0, 1) := by decide +kernel
theorem d_Cun_inspect_328 : decode b_Cun_inspect 328 = .ok (.aload_n 1, 1) := by decide +kernel
theorem d_Cun_inspect_329 : decode b_Cun_inspect 329 = .ok (.aload_n 2, 1) := by decide +kernel
theorem d_Cun_inspect_330 : decode b_Cun_inspect 330 = .ok (.invokevirtual 212, 3) := by decide +kernel
theorem d_Cun_inspect_333 : decode b_Cun_inspect 333 = .ok (.ireturn, 1) := by decide +kernel
theorem d_Cun_inspect_334 : decode b_Cun_inspect 334 = .ok (.aload_n 0, 1) := by decide +kernel
theorem d_Cun_inspect_335 : decode b_Cun_inspect 335 = .ok (.getfield 18, 3) := by decide +kernel
theorem d_Cun_inspect_338 : decode b_Cun_inspect 338 = .ok (.aload_n 1, 1) := by decide +kernel
theorem d_Cun_inspect_339 : decode b_Cun_inspect 339 = .ok (.getfield 86, 3) := by decide +kernel
theorem d_Cun_inspect_342 : decode b_Cun_inspect 342 = .ok (.aload_n 2, 1) := by decide +kernel
theorem d_Cun_inspect_343 : decode b_Cun_inspect 343 = .ok (.invokevirtual 215, 3) := by decide +kernel
theorem d_Cun_inspect_346 : decode b_Cun_inspect 346 = .ok (.invokevirtual 89, 3) := by decide +kernel
theorem d_Cun_inspect_349 : decode b_Cun_inspect 349 = .ok (.ireturn, 1) := by decide +kernel
theorem d_Cun_inspect_350 : decode b_Cun_inspect 350 = .ok (.aload_n 0, 1) := by decide +kernel
theorem d_Cun_inspect_351 : decode b_Cun_inspect 351 = .ok (.getfield 18, 3) := by decide +kernel
theorem d_Cun_inspect_354 : decode b_Cun_inspect 354 = .ok (.aload_n 1, 1) := by decide +kernel
theorem d_Cun_inspect_355 : decode b_Cun_inspect 355 = .ok (.invokevirtual 60, 3) := by decide +kernel
theorem d_Cun_inspect_358 : decode b_Cun_inspect 358 = .ok (.ireturn, 1) := by decide +kernel
theorem d_Cun_representable_0 : decode b_Cun_representable 0 = .ok (.aload_n 0, 1) := by decide +kernel
theorem d_Cun_representable_1 : decode b_Cun_representable 1 = .ok (.getfield 12, 3) := by decide +kernel
theorem d_Cun_representable_4 : decode b_Cun_representable 4 = .ok (.lconst 0, 1) := by decide +kernel
theorem d_Cun_representable_5 : decode b_Cun_representable 5 = .ok (.iload_n 2, 1) := by decide +kernel
theorem d_Cun_representable_6 : decode b_Cun_representable 6 = .ok (.i2l, 1) := by decide +kernel
theorem d_Cun_representable_7 : decode b_Cun_representable 7 = .ok (.ldc2_w 71, 3) := by decide +kernel
theorem d_Cun_representable_10 : decode b_Cun_representable 10 = .ok (.land, 1) := by decide +kernel
theorem d_Cun_representable_11 : decode b_Cun_representable 11 = .ok (.invokevirtual 147, 3) := by decide +kernel
theorem d_Cun_representable_14 : decode b_Cun_representable 14 = .ok (.aload_n 0, 1) := by decide +kernel
theorem d_Cun_representable_15 : decode b_Cun_representable 15 = .ok (.getfield 12, 3) := by decide +kernel
theorem d_Cun_representable_18 : decode b_Cun_representable 18 = .ok (.getfield 218, 3) := by decide +kernel
theorem d_Cun_representable_21 : decode b_Cun_representable 21 = .ok (.ifCond .eq 16, 3) := by decide +kernel
theorem d_Cun_representable_24 : decode b_Cun_representable 24 = .ok (.bipush (-8), 2) := by decide +kernel
theorem d_Cun_representable_26 : decode b_Cun_representable 26 = .ok (.aload_n 0, 1) := by decide +kernel
theorem d_Cun_representable_27 : decode b_Cun_representable 27 = .ok (.getfield 12, 3) := by decide +kernel
theorem d_Cun_representable_30 : decode b_Cun_representable 30 = .ok (.getfield 221, 3) := by decide +kernel
theorem d_Cun_representable_33 : decode b_Cun_representable 33 = .ok (.ishl, 1) := by decide +kernel
theorem d_Cun_representable_34 : decode b_Cun_representable 34 = .ok (.goto 4, 3) := by decide +kernel
theorem d_Cun_representable_37 : decode b_Cun_representable 37 = .ok (.iconst (-1), 1) := by decide +kernel
theorem d_Cun_representable_38 : decode b_Cun_representable 38 = .ok (.istore 4, 2) := by decide +kernel
theorem d_Cun_representable_40 : decode b_Cun_representable 40 = .ok (.aload_n 0, 1) := by decide +kernel
theorem d_Cun_representable_41 : decode b_Cun_representable 41 = .ok (.getfield 18, 3) := by decide +kernel
theorem d_Cun_representable_44 : decode b_Cun_representable 44 = .ok (.aload_n 1, 1) := by decide +kernel
theorem d_Cun_representable_45 : decode b_Cun_representable 45 = .ok (.getfield 86, 3) := by decide +kernel
theorem d_Cun_representable_48 : decode b_Cun_representable 48 = .ok (.iload_n 3, 1) := by decide +kernel
theorem d_Cun_representable_49 : decode b_Cun_representable 49 = .ok (.ifCond .eq 8, 3) := by decide +kernel
theorem d_Cun_representable_52 : decode b_Cun_representable 52 = .ok (.iload 4, 2) := by decide +kernel
theorem d_Cun_representable_54 : decode b_Cun_representable 54 = .ok (.goto 11, 3) := by decide +kernel
theorem d_Cun_representable_57 : decode b_Cun_representable 57 = .ok (.aload_n 0, 1) := by decide +kernel
theorem d_Cun_representable_58 : decode b_Cun_representable 58 = .ok (.getfield 12, 3) := by decide +kernel
theorem d_Cun_representable_61 : decode b_Cun_representable 61 = .ok (.getfield 224, 3) := by decide +kernel
theorem d_Cun_representable_64 : decode b_Cun_representable 64 = .ok (.l2i, 1) := by decide +kernel
theorem d_Cun_representable_65 : decode b_Cun_representable 65 = .ok (.invokevirtual 89, 3) := by decide +kernel
theorem d_Cun_representable_68 : decode b_Cun_representable 68 = .ok (.ireturn, 1) := by decide +kernel
theorem d_Cun_copy_0 : decode b_Cun_copy 0 = .ok (.aload_n 0, 1) := by decide +kernel
theorem d_Cun_copy_1 : decode b_Cun_copy 1 = .ok (.getfield 18, 3) := by decide +kernel
theorem d_Cun_copy_4 : decode b_Cun_copy 4 = .ok (.getfield 113, 3) := by decide +kernel
theorem d_Cun_copy_7 : decode b_Cun_copy 7 = .ok (.aload_n 2, 1) := by decide +kernel
theorem d_Cun_copy_8 : decode b_Cun_copy 8 = .ok (.invokevirtual 117, 3) := by decide +kernel
theorem d_Cun_copy_11 : decode b_Cun_copy 11 = .ok (.aload_n 0, 1) := by decide +kernel
theorem d_Cun_copy_12 : decode b_Cun_copy 12 = .ok (.getfield 18, 3) := by decide +kernel
theorem d_Cun_copy_15 : decode b_Cun_copy 15 = .ok (.getfield 113, 3) := by decide +kernel
theorem d_Cun_copy_18 : decode b_Cun_copy 18 = .ok (.iload_n 3, 1) := by decide +kernel
theorem d_Cun_copy_19 : decode b_Cun_copy 19 = .ok (.putfield 99, 3) := by decide +kernel
theorem d_Cun_copy_22 : decode b_Cun_copy 22 = .ok (.aload_n 0, 1) := by decide +kernel
theorem d_Cun_copy_23 : decode b_Cun_copy 23 = .ok (.getfield 18, 3) := by decide +kernel
theorem d_Cun_copy_26 : decode b_Cun_copy 26 = .ok (.aload_n 1, 1) := by decide +kernel
theorem d_Cun_copy_27 : decode b_Cun_copy 27 = .ok (.getfield 86, 3) := by decide +kernel
theorem d_Cun_copy_30 : decode b_Cun_copy 30 = .ok (.invokevirtual 125, 3) := by decide +kernel
theorem d_Cun_copy_33 : decode b_Cun_copy 33 = .ok (.ireturn, 1) := by decide +kernel
theorem d_Cun_sealEntry_0 : decode b_Cun_sealEntry 0 = .ok (.aload_n 0, 1) := by decide +kernel
theorem d_Cun_sealEntry_1 : decode b_Cun_sealEntry 1 = .ok (.getfield 18, 3) := by decide +kernel
theorem d_Cun_sealEntry_4 : decode b_Cun_sealEntry 4 = .ok (.getfield 113, 3) := by decide +kernel
theorem d_Cun_sealEntry_7 : decode b_Cun_sealEntry 7 = .ok (.aload_n 2, 1) := by decide +kernel
theorem d_Cun_sealEntry_8 : decode b_Cun_sealEntry 8 = .ok (.invokevirtual 117, 3) := by decide +kernel
theorem d_Cun_sealEntry_11 : decode b_Cun_sealEntry 11 = .ok (.aload_n 0, 1) := by decide +kernel
theorem d_Cun_sealEntry_12 : decode b_Cun_sealEntry 12 = .ok (.getfield 18, 3) := by decide +kernel
theorem d_Cun_sealEntry_15 : decode b_Cun_sealEntry 15 = .ok (.getfield 113, 3) := by decide +kernel
theorem d_Cun_sealEntry_18 : decode b_Cun_sealEntry 18 = .ok (.bipush 14, 2) := by decide +kernel
theorem d_Cun_sealEntry_20 : decode b_Cun_sealEntry 20 = .ok (.invokevirtual 172, 3) := by decide +kernel
theorem d_Cun_sealEntry_23 : decode b_Cun_sealEntry 23 = .ok (.aload_n 0, 1) := by decide +kernel
theorem d_Cun_sealEntry_24 : decode b_Cun_sealEntry 24 = .ok (.getfield 18, 3) := by decide +kernel
theorem d_Cun_sealEntry_27 : decode b_Cun_sealEntry 27 = .ok (.getfield 113, 3) := by decide +kernel
theorem d_Cun_sealEntry_30 : decode b_Cun_sealEntry 30 = .ok (.aload_n 2, 1) := by decide +kernel
theorem d_Cun_sealEntry_31 : decode b_Cun_sealEntry 31 = .ok (.getfield 99, 3) := by decide +kernel
theorem d_Cun_sealEntry_34 : decode b_Cun_sealEntry 34 = .ok (.ifCond .eq 22, 3) := by decide +kernel
theorem d_Cun_sealEntry_37 : decode b_Cun_sealEntry 37 = .ok (.aload_n 2, 1) := by decide +kernel
theorem d_Cun_sealEntry_38 : decode b_Cun_sealEntry 38 = .ok (.invokevirtual 151, 3) := by decide +kernel
theorem d_Cun_sealEntry_41 : decode b_Cun_sealEntry 41 = .ok (.ifCond .eq 15, 3) := by decide +kernel
theorem d_Cun_sealEntry_44 : decode b_Cun_sealEntry 44 = .ok (.aload_n 2, 1) := by decide +kernel
theorem d_Cun_sealEntry_45 : decode b_Cun_sealEntry 45 = .ok (.iconst 1, 1) := by decide +kernel
theorem d_Cun_sealEntry_46 : decode b_Cun_sealEntry 46 = .ok (.invokevirtual 132, 3) := by decide +kernel
theorem d_Cun_sealEntry_49 : decode b_Cun_sealEntry 49 = .ok (.ifCond .eq 7, 3) := by decide +kernel
theorem d_Cun_sealEntry_52 : decode b_Cun_sealEntry 52 = .ok (.iconst 1, 1) := by decide +kernel
theorem d_Cun_sealEntry_53 : decode b_Cun_sealEntry 53 = .ok (.goto 4, 3) := by decide +kernel
theorem d_Cun_sealEntry_56 : decode b_Cun_sealEntry 56 = .ok (.iconst 0, 1) := by decide +kernel
theorem d_Cun_sealEntry_57 : decode b_Cun_sealEntry 57 = .ok (.putfield 99, 3) := by decide +kernel
theorem d_Cun_sealEntry_60 : decode b_Cun_sealEntry 60 = .ok (.aload_n 0, 1) := by decide +kernel
theorem d_Cun_sealEntry_61 : decode b_Cun_sealEntry 61 = .ok (.getfield 18, 3) := by decide +kernel
theorem d_Cun_sealEntry_64 : decode b_Cun_sealEntry 64 = .ok (.aload_n 1, 1) := by decide +kernel
theorem d_Cun_sealEntry_65 : decode b_Cun_sealEntry 65 = .ok (.getfield 86, 3) := by decide +kernel
theorem d_Cun_sealEntry_68 : decode b_Cun_sealEntry 68 = .ok (.invokevirtual 125, 3) := by decide +kernel
theorem d_Cun_sealEntry_71 : decode b_Cun_sealEntry 71 = .ok (.ireturn, 1) := by decide +kernel
