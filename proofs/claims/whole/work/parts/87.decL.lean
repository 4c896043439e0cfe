theorem d_Law_law_0 : decode code 0 = .ok (.new 8, 3) := by decide +kernel
theorem d_Law_law_3 : decode code 3 = .ok (.dup, 1) := by decide +kernel
theorem d_Law_law_4 : decode code 4 = .ok (.invokespecial 48, 3) := by decide +kernel
theorem d_Law_law_7 : decode code 7 = .ok (.astore_n 1, 1) := by decide +kernel
theorem d_Law_law_8 : decode code 8 = .ok (.new 49, 3) := by decide +kernel
theorem d_Law_law_11 : decode code 11 = .ok (.dup, 1) := by decide +kernel
theorem d_Law_law_12 : decode code 12 = .ok (.invokespecial 51, 3) := by decide +kernel
theorem d_Law_law_15 : decode code 15 = .ok (.astore_n 2, 1) := by decide +kernel
theorem d_Law_law_16 : decode code 16 = .ok (.iconst 1, 1) := by decide +kernel
theorem d_Law_law_17 : decode code 17 = .ok (.newarray .long, 2) := by decide +kernel
theorem d_Law_law_19 : decode code 19 = .ok (.astore_n 3, 1) := by decide +kernel
theorem d_Law_law_20 : decode code 20 = .ok (.iconst 0, 1) := by decide +kernel
theorem d_Law_law_21 : decode code 21 = .ok (.istore 4, 2) := by decide +kernel
theorem d_Law_law_23 : decode code 23 = .ok (.iload 4, 2) := by decide +kernel
theorem d_Law_law_25 : decode code 25 = .ok (.aload_n 0, 1) := by decide +kernel
theorem d_Law_law_26 : decode code 26 = .ok (.arraylength, 1) := by decide +kernel
theorem d_Law_law_27 : decode code 27 = .ok (.iconst 5, 1) := by decide +kernel
theorem d_Law_law_28 : decode code 28 = .ok (.isub, 1) := by decide +kernel
theorem d_Law_law_29 : decode code 29 = .ok (.if_icmp .gt 788, 3) := by decide +kernel
theorem d_Law_law_32 : decode code 32 = .ok (.aload_n 0, 1) := by decide +kernel
theorem d_Law_law_33 : decode code 33 = .ok (.iload 4, 2) := by decide +kernel
theorem d_Law_law_35 : decode code 35 = .ok (.iaload, 1) := by decide +kernel
theorem d_Law_law_36 : decode code 36 = .ok (.bipush 15, 2) := by decide +kernel
theorem d_Law_law_38 : decode code 38 = .ok (.iand, 1) := by decide +kernel
theorem d_Law_law_39 : decode code 39 = .ok (.tableswitch 772 0 11 #[61, 129, 221, 281, 337, 405, 461, 524, 580, 680, 746, 759], 61) := by decide +kernel
theorem d_Law_law_100 : decode code 100 = .ok (.aload_n 1, 1) := by decide +kernel
theorem d_Law_law_101 : decode code 101 = .ok (.aload_n 0, 1) := by decide +kernel
theorem d_Law_law_102 : decode code 102 = .ok (.iload 4, 2) := by decide +kernel
theorem d_Law_law_104 : decode code 104 = .ok (.iconst 1, 1) := by decide +kernel
theorem d_Law_law_105 : decode code 105 = .ok (.iadd, 1) := by decide +kernel
theorem d_Law_law_106 : decode code 106 = .ok (.iaload, 1) := by decide +kernel
theorem d_Law_law_107 : decode code 107 = .ok (.aload_n 0, 1) := by decide +kernel
theorem d_Law_law_108 : decode code 108 = .ok (.iload 4, 2) := by decide +kernel
theorem d_Law_law_110 : decode code 110 = .ok (.iconst 2, 1) := by decide +kernel
theorem d_Law_law_111 : decode code 111 = .ok (.iadd, 1) := by decide +kernel
theorem d_Law_law_112 : decode code 112 = .ok (.iaload, 1) := by decide +kernel
theorem d_Law_law_113 : decode code 113 = .ok (.aload_n 3, 1) := by decide +kernel
theorem d_Law_law_114 : decode code 114 = .ok (.invokestatic 52, 3) := by decide +kernel
theorem d_Law_law_117 : decode code 117 = .ok (.istore 5, 2) := by decide +kernel
theorem d_Law_law_119 : decode code 119 = .ok (.aload_n 2, 1) := by decide +kernel
theorem d_Law_law_120 : decode code 120 = .ok (.aload_n 0, 1) := by decide +kernel
theorem d_Law_law_121 : decode code 121 = .ok (.iload 4, 2) := by decide +kernel
theorem d_Law_law_123 : decode code 123 = .ok (.iconst 1, 1) := by decide +kernel
theorem d_Law_law_124 : decode code 124 = .ok (.iadd, 1) := by decide +kernel
theorem d_Law_law_125 : decode code 125 = .ok (.iaload, 1) := by decide +kernel
theorem d_Law_law_126 : decode code 126 = .ok (.aload_n 0, 1) := by decide +kernel
theorem d_Law_law_127 : decode code 127 = .ok (.iload 4, 2) := by decide +kernel
theorem d_Law_law_129 : decode code 129 = .ok (.iconst 2, 1) := by decide +kernel
theorem d_Law_law_130 : decode code 130 = .ok (.iadd, 1) := by decide +kernel
theorem d_Law_law_131 : decode code 131 = .ok (.iaload, 1) := by decide +kernel
theorem d_Law_law_132 : decode code 132 = .ok (.invokevirtual 57, 3) := by decide +kernel
theorem d_Law_law_135 : decode code 135 = .ok (.istore 6, 2) := by decide +kernel
theorem d_Law_law_137 : decode code 137 = .ok (.aload_n 2, 1) := by decide +kernel
theorem d_Law_law_138 : decode code 138 = .ok (.invokevirtual 58, 3) := by decide +kernel
theorem d_Law_law_141 : decode code 141 = .ok (.iload 5, 2) := by decide +kernel
theorem d_Law_law_143 : decode code 143 = .ok (.if_icmp .eq 5, 3) := by decide +kernel
theorem d_Law_law_146 : decode code 146 = .ok (.iconst 0, 1) := by decide +kernel
theorem d_Law_law_147 : decode code 147 = .ok (.ireturn, 1) := by decide +kernel
theorem d_Law_law_148 : decode code 148 = .ok (.iload 5, 2) := by decide +kernel
theorem d_Law_law_150 : decode code 150 = .ok (.ifCond .ne 15, 3) := by decide +kernel
theorem d_Law_law_153 : decode code 153 = .ok (.aload_n 3, 1) := by decide +kernel
theorem d_Law_law_154 : decode code 154 = .ok (.iconst 0, 1) := by decide +kernel
theorem d_Law_law_155 : decode code 155 = .ok (.laload, 1) := by decide +kernel
theorem d_Law_law_156 : decode code 156 = .ok (.iload 6, 2) := by decide +kernel
theorem d_Law_law_158 : decode code 158 = .ok (.i2l, 1) := by decide +kernel
theorem d_Law_law_159 : decode code 159 = .ok (.lcmp, 1) := by decide +kernel
theorem d_Law_law_160 : decode code 160 = .ok (.ifCond .eq 5, 3) := by decide +kernel
theorem d_Law_law_163 : decode code 163 = .ok (.iconst 0, 1) := by decide +kernel
theorem d_Law_law_164 : decode code 164 = .ok (.ireturn, 1) := by decide +kernel
theorem d_Law_law_165 : decode code 165 = .ok (.goto 646, 3) := by decide +kernel
theorem d_Law_law_168 : decode code 168 = .ok (.aload_n 1, 1) := by decide +kernel
theorem d_Law_law_169 : decode code 169 = .ok (.aload_n 0, 1) := by decide +kernel
theorem d_Law_law_170 : decode code 170 = .ok (.iload 4, 2) := by decide +kernel
theorem d_Law_law_172 : decode code 172 = .ok (.iconst 1, 1) := by decide +kernel
theorem d_Law_law_173 : decode code 173 = .ok (.iadd, 1) := by decide +kernel
theorem d_Law_law_174 : decode code 174 = .ok (.iaload, 1) := by decide +kernel
theorem d_Law_law_175 : decode code 175 = .ok (.aload_n 0, 1) := by decide +kernel
theorem d_Law_law_176 : decode code 176 = .ok (.iload 4, 2) := by decide +kernel
theorem d_Law_law_178 : decode code 178 = .ok (.iconst 2, 1) := by decide +kernel
theorem d_Law_law_179 : decode code 179 = .ok (.iadd, 1) := by decide +kernel
theorem d_Law_law_180 : decode code 180 = .ok (.iaload, 1) := by decide +kernel
theorem d_Law_law_181 : decode code 181 = .ok (.aload_n 0, 1) := by decide +kernel
theorem d_Law_law_182 : decode code 182 = .ok (.iload 4, 2) := by decide +kernel
theorem d_Law_law_184 : decode code 184 = .ok (.iconst 3, 1) := by decide +kernel
theorem d_Law_law_185 : decode code 185 = .ok (.iadd, 1) := by decide +kernel
theorem d_Law_law_186 : decode code 186 = .ok (.iaload, 1) := by decide +kernel
theorem d_Law_law_187 : decode code 187 = .ok (.aload_n 0, 1) := by decide +kernel
theorem d_Law_law_188 : decode code 188 = .ok (.iload 4, 2) := by decide +kernel
theorem d_Law_law_190 : decode code 190 = .ok (.iconst 4, 1) := by decide +kernel
theorem d_Law_law_191 : decode code 191 = .ok (.iadd, 1) := by decide +kernel
theorem d_Law_law_192 : decode code 192 = .ok (.iaload, 1) := by decide +kernel
theorem d_Law_law_193 : decode code 193 = .ok (.aload_n 3, 1) := by decide +kernel
theorem d_Law_law_194 : decode code 194 = .ok (.invokestatic 62, 3) := by decide +kernel
theorem d_Law_law_197 : decode code 197 = .ok (.istore 5, 2) := by decide +kernel
theorem d_Law_law_199 : decode code 199 = .ok (.aload_n 2, 1) := by decide +kernel
theorem d_Law_law_200 : decode code 200 = .ok (.aload_n 0, 1) := by decide +kernel
theorem d_Law_law_201 : decode code 201 = .ok (.iload 4, 2) := by decide +kernel
theorem d_Law_law_203 : decode code 203 = .ok (.iconst 1, 1) := by decide +kernel
theorem d_Law_law_204 : decode code 204 = .ok (.iadd, 1) := by decide +kernel
theorem d_Law_law_205 : decode code 205 = .ok (.iaload, 1) := by decide +kernel
theorem d_Law_law_206 : decode code 206 = .ok (.aload_n 0, 1) := by decide +kernel
theorem d_Law_law_207 : decode code 207 = .ok (.iload 4, 2) := by decide +kernel
theorem d_Law_law_209 : decode code 209 = .ok (.iconst 2, 1) := by decide +kernel
theorem d_Law_law_210 : decode code 210 = .ok (.iadd, 1) := by decide +kernel
theorem d_Law_law_211 : decode code 211 = .ok (.iaload, 1) := by decide +kernel
theorem d_Law_law_212 : decode code 212 = .ok (.aload_n 0, 1) := by decide +kernel
theorem d_Law_law_213 : decode code 213 = .ok (.iload 4, 2) := by decide +kernel
theorem d_Law_law_215 : decode code 215 = .ok (.iconst 3, 1) := by decide +kernel
theorem d_Law_law_216 : decode code 216 = .ok (.iadd, 1) := by decide +kernel
theorem d_Law_law_217 : decode code 217 = .ok (.iaload, 1) := by decide +kernel
theorem d_Law_law_218 : decode code 218 = .ok (.aload_n 0, 1) := by decide +kernel
theorem d_Law_law_219 : decode code 219 = .ok (.iload 4, 2) := by decide +kernel
theorem d_Law_law_221 : decode code 221 = .ok (.iconst 4, 1) := by decide +kernel
theorem d_Law_law_222 : decode code 222 = .ok (.iadd, 1) := by decide +kernel
theorem d_Law_law_223 : decode code 223 = .ok (.iaload, 1) := by decide +kernel
theorem d_Law_law_224 : decode code 224 = .ok (.invokevirtual 65, 3) := by decide +kernel
theorem d_Law_law_227 : decode code 227 = .ok (.istore 6, 2) := by decide +kernel
theorem d_Law_law_229 : decode code 229 = .ok (.aload_n 2, 1) := by decide +kernel
theorem d_Law_law_230 : decode code 230 = .ok (.invokevirtual 58, 3) := by decide +kernel
theorem d_Law_law_233 : decode code 233 = .ok (.iload 5, 2) := by decide +kernel
theorem d_Law_law_235 : decode code 235 = .ok (.if_icmp .eq 5, 3) := by decide +kernel
theorem d_Law_law_238 : decode code 238 = .ok (.iconst 0, 1) := by decide +kernel
theorem d_Law_law_239 : decode code 239 = .ok (.ireturn, 1) := by decide +kernel
theorem d_Law_law_240 : decode code 240 = .ok (.iload 5, 2) := by decide +kernel
theorem d_Law_law_242 : decode code 242 = .ok (.ifCond .ne 15, 3) := by decide +kernel
theorem d_Law_law_245 : decode code 245 = .ok (.aload_n 3, 1) := by decide +kernel
theorem d_Law_law_246 : decode code 246 = .ok (.iconst 0, 1) := by decide +kernel
theorem d_Law_law_247 : decode code 247 = .ok (.laload, 1) := by decide +kernel
theorem d_Law_law_248 : decode code 248 = .ok (.iload 6, 2) := by decide +kernel
theorem d_Law_law_250 : decode code 250 = .ok (.i2l, 1) := by decide +kernel
theorem d_Law_law_251 : decode code 251 = .ok (.lcmp, 1) := by decide +kernel
theorem d_Law_law_252 : decode code 252 = .ok (.ifCond .eq 5, 3) := by decide +kernel
theorem d_Law_law_255 : decode code 255 = .ok (.iconst 0, 1) := by decide +kernel
theorem d_Law_law_256 : decode code 256 = .ok (.ireturn, 1) := by decide +kernel
theorem d_Law_law_257 : decode code 257 = .ok (.goto 554, 3) := by decide +kernel
theorem d_Law_law_260 : decode code 260 = .ok (.aload_n 1, 1) := by decide +kernel
theorem d_Law_law_261 : decode code 261 = .ok (.aload_n 0, 1) := by decide +kernel
theorem d_Law_law_262 : decode code 262 = .ok (.iload 4, 2) := by decide +kernel
theorem d_Law_law_264 : decode code 264 = .ok (.iconst 1, 1) := by decide +kernel
theorem d_Law_law_265 : decode code 265 = .ok (.iadd, 1) := by decide +kernel
theorem d_Law_law_266 : decode code 266 = .ok (.iaload, 1) := by decide +kernel
theorem d_Law_law_267 : decode code 267 = .ok (.aload_n 0, 1) := by decide +kernel
theorem d_Law_law_268 : decode code 268 = .ok (.iload 4, 2) := by decide +kernel
theorem d_Law_law_270 : decode code 270 = .ok (.iconst 2, 1) := by decide +kernel
theorem d_Law_law_271 : decode code 271 = .ok (.iadd, 1) := by decide +kernel
theorem d_Law_law_272 : decode code 272 = .ok (.iaload, 1) := by decide +kernel
theorem d_Law_law_273 : decode code 273 = .ok (.aload_n 0, 1) := by decide +kernel
theorem d_Law_law_274 : decode code 274 = .ok (.iload 4, 2) := by decide +kernel
theorem d_Law_law_276 : decode code 276 = .ok (.iconst 3, 1) := by decide +kernel
theorem d_Law_law_277 : decode code 277 = .ok (.iadd, 1) := by decide +kernel
theorem d_Law_law_278 : decode code 278 = .ok (.iaload, 1) := by decide +kernel
theorem d_Law_law_279 : decode code 279 = .ok (.invokestatic 66, 3) := by decide +kernel
theorem d_Law_law_282 : decode code 282 = .ok (.istore 5, 2) := by decide +kernel
theorem d_Law_law_284 : decode code 284 = .ok (.aload_n 2, 1) := by decide +kernel
theorem d_Law_law_285 : decode code 285 = .ok (.aload_n 0, 1) := by decide +kernel
theorem d_Law_law_286 : decode code 286 = .ok (.iload 4, 2) := by decide +kernel
theorem d_Law_law_288 : decode code 288 = .ok (.iconst 1, 1) := by decide +kernel
theorem d_Law_law_289 : decode code 289 = .ok (.iadd, 1) := by decide +kernel
theorem d_Law_law_290 : decode code 290 = .ok (.iaload, 1) := by decide +kernel
theorem d_Law_law_291 : decode code 291 = .ok (.aload_n 0, 1) := by decide +kernel
theorem d_Law_law_292 : decode code 292 = .ok (.iload 4, 2) := by decide +kernel
theorem d_Law_law_294 : decode code 294 = .ok (.iconst 2, 1) := by decide +kernel
theorem d_Law_law_295 : decode code 295 = .ok (.iadd, 1) := by decide +kernel
theorem d_Law_law_296 : decode code 296 = .ok (.iaload, 1) := by decide +kernel
theorem d_Law_law_297 : decode code 297 = .ok (.aload_n 0, 1) := by decide +kernel
theorem d_Law_law_298 : decode code 298 = .ok (.iload 4, 2) := by decide +kernel
theorem d_Law_law_300 : decode code 300 = .ok (.iconst 3, 1) := by decide +kernel
theorem d_Law_law_301 : decode code 301 = .ok (.iadd, 1) := by decide +kernel
theorem d_Law_law_302 : decode code 302 = .ok (.iaload, 1) := by decide +kernel
theorem d_Law_law_303 : decode code 303 = .ok (.invokevirtual 69, 3) := by decide +kernel
theorem d_Law_law_306 : decode code 306 = .ok (.aload_n 2, 1) := by decide +kernel
theorem d_Law_law_307 : decode code 307 = .ok (.invokevirtual 58, 3) := by decide +kernel
theorem d_Law_law_310 : decode code 310 = .ok (.iload 5, 2) := by decide +kernel
theorem d_Law_law_312 : decode code 312 = .ok (.if_icmp .eq 5, 3) := by decide +kernel
theorem d_Law_law_315 : decode code 315 = .ok (.iconst 0, 1) := by decide +kernel
theorem d_Law_law_316 : decode code 316 = .ok (.ireturn, 1) := by decide +kernel
theorem d_Law_law_317 : decode code 317 = .ok (.goto 494, 3) := by decide +kernel
theorem d_Law_law_320 : decode code 320 = .ok (.aload_n 1, 1) := by decide +kernel
theorem d_Law_law_321 : decode code 321 = .ok (.aload_n 0, 1) := by decide +kernel
theorem d_Law_law_322 : decode code 322 = .ok (.iload 4, 2) := by decide +kernel
theorem d_Law_law_324 : decode code 324 = .ok (.iconst 1, 1) := by decide +kernel
theorem d_Law_law_325 : decode code 325 = .ok (.iadd, 1) := by decide +kernel
theorem d_Law_law_326 : decode code 326 = .ok (.iaload, 1) := by decide +kernel
theorem d_Law_law_327 : decode code 327 = .ok (.aload_n 3, 1) := by decide +kernel
theorem d_Law_law_328 : decode code 328 = .ok (.invokestatic 70, 3) := by decide +kernel
theorem d_Law_law_331 : decode code 331 = .ok (.istore 5, 2) := by decide +kernel
theorem d_Law_law_333 : decode code 333 = .ok (.aload_n 2, 1) := by decide +kernel
theorem d_Law_law_334 : decode code 334 = .ok (.aload_n 0, 1) := by decide +kernel
theorem d_Law_law_335 : decode code 335 = .ok (.iload 4, 2) := by decide +kernel
theorem d_Law_law_337 : decode code 337 = .ok (.iconst 1, 1) := by decide +kernel
theorem d_Law_law_338 : decode code 338 = .ok (.iadd, 1) := by decide +kernel
theorem d_Law_law_339 : decode code 339 = .ok (.iaload, 1) := by decide +kernel
theorem d_Law_law_340 : decode code 340 = .ok (.invokevirtual 73, 3) := by decide +kernel
theorem d_Law_law_343 : decode code 343 = .ok (.istore 6, 2) := by decide +kernel
theorem d_Law_law_345 : decode code 345 = .ok (.aload_n 2, 1) := by decide +kernel
theorem d_Law_law_346 : decode code 346 = .ok (.invokevirtual 58, 3) := by decide +kernel
theorem d_Law_law_349 : decode code 349 = .ok (.iload 5, 2) := by decide +kernel
theorem d_Law_law_351 : decode code 351 = .ok (.if_icmp .eq 5, 3) := by decide +kernel
theorem d_Law_law_354 : decode code 354 = .ok (.iconst 0, 1) := by decide +kernel
theorem d_Law_law_355 : decode code 355 = .ok (.ireturn, 1) := by decide +kernel
theorem d_Law_law_356 : decode code 356 = .ok (.iload 5, 2) := by decide +kernel
theorem d_Law_law_358 : decode code 358 = .ok (.ifCond .ne 15, 3) := by decide +kernel
theorem d_Law_law_361 : decode code 361 = .ok (.aload_n 3, 1) := by decide +kernel
theorem d_Law_law_362 : decode code 362 = .ok (.iconst 0, 1) := by decide +kernel
theorem d_Law_law_363 : decode code 363 = .ok (.laload, 1) := by decide +kernel
theorem d_Law_law_364 : decode code 364 = .ok (.iload 6, 2) := by decide +kernel
theorem d_Law_law_366 : decode code 366 = .ok (.i2l, 1) := by decide +kernel
theorem d_Law_law_367 : decode code 367 = .ok (.lcmp, 1) := by decide +kernel
theorem d_Law_law_368 : decode code 368 = .ok (.ifCond .eq 5, 3) := by decide +kernel
theorem d_Law_law_371 : decode code 371 = .ok (.iconst 0, 1) := by decide +kernel
theorem d_Law_law_372 : decode code 372 = .ok (.ireturn, 1) := by decide +kernel
theorem d_Law_law_373 : decode code 373 = .ok (.goto 438, 3) := by decide +kernel
theorem d_Law_law_376 : decode code 376 = .ok (.aload_n 1, 1) := by decide +kernel
theorem d_Law_law_377 : decode code 377 = .ok (.aload_n 0, 1) := by decide +kernel
theorem d_Law_law_378 : decode code 378 = .ok (.iload 4, 2) := by decide +kernel
theorem d_Law_law_380 : decode code 380 = .ok (.iconst 1, 1) := by decide +kernel
theorem d_Law_law_381 : decode code 381 = .ok (.iadd, 1) := by decide +kernel
theorem d_Law_law_382 : decode code 382 = .ok (.iaload, 1) := by decide +kernel
theorem d_Law_law_383 : decode code 383 = .ok (.aload_n 0, 1) := by decide +kernel
theorem d_Law_law_384 : decode code 384 = .ok (.iload 4, 2) := by decide +kernel
theorem d_Law_law_386 : decode code 386 = .ok (.iconst 2, 1) := by decide +kernel
theorem d_Law_law_387 : decode code 387 = .ok (.iadd, 1) := by decide +kernel
theorem d_Law_law_388 : decode code 388 = .ok (.iaload, 1) := by decide +kernel
theorem d_Law_law_389 : decode code 389 = .ok (.aload_n 3, 1) := by decide +kernel
theorem d_Law_law_390 : decode code 390 = .ok (.invokestatic 74, 3) := by decide +kernel
theorem d_Law_law_393 : decode code 393 = .ok (.istore 5, 2) := by decide +kernel
theorem d_Law_law_395 : decode code 395 = .ok (.aload_n 2, 1) := by decide +kernel
theorem d_Law_law_396 : decode code 396 = .ok (.aload_n 0, 1) := by decide +kernel
theorem d_Law_law_397 : decode code 397 = .ok (.iload 4, 2) := by decide +kernel
theorem d_Law_law_399 : decode code 399 = .ok (.iconst 1, 1) := by decide +kernel
theorem d_Law_law_400 : decode code 400 = .ok (.iadd, 1) := by decide +kernel
theorem d_Law_law_401 : decode code 401 = .ok (.iaload, 1) := by decide +kernel
theorem d_Law_law_402 : decode code 402 = .ok (.aload_n 0, 1) := by decide +kernel
theorem d_Law_law_403 : decode code 403 = .ok (.iload 4, 2) := by decide +kernel
theorem d_Law_law_405 : decode code 405 = .ok (.iconst 2, 1) := by decide +kernel
theorem d_Law_law_406 : decode code 406 = .ok (.iadd, 1) := by decide +kernel
theorem d_Law_law_407 : decode code 407 = .ok (.iaload, 1) := by decide +kernel
theorem d_Law_law_408 : decode code 408 = .ok (.invokevirtual 76, 3) := by decide +kernel
theorem d_Law_law_411 : decode code 411 = .ok (.istore 6, 2) := by decide +kernel
theorem d_Law_law_413 : decode code 413 = .ok (.aload_n 2, 1) := by decide +kernel
theorem d_Law_law_414 : decode code 414 = .ok (.invokevirtual 58, 3) := by decide +kernel
theorem d_Law_law_417 : decode code 417 = .ok (.iload 5, 2) := by decide +kernel
theorem d_Law_law_419 : decode code 419 = .ok (.if_icmp .eq 5, 3) := by decide +kernel
theorem d_Law_law_422 : decode code 422 = .ok (.iconst 0, 1) := by decide +kernel
theorem d_Law_law_423 : decode code 423 = .ok (.ireturn, 1) := by decide +kernel
theorem d_Law_law_424 : decode code 424 = .ok (.iload 5, 2) := by decide +kernel
theorem d_Law_law_426 : decode code 426 = .ok (.ifCond .ne 15, 3) := by decide +kernel
theorem d_Law_law_429 : decode code 429 = .ok (.aload_n 3, 1) := by decide +kernel
theorem d_Law_law_430 : decode code 430 = .ok (.iconst 0, 1) := by decide +kernel
theorem d_Law_law_431 : decode code 431 = .ok (.laload, 1) := by decide +kernel
theorem d_Law_law_432 : decode code 432 = .ok (.iload 6, 2) := by decide +kernel
theorem d_Law_law_434 : decode code 434 = .ok (.i2l, 1) := by decide +kernel
theorem d_Law_law_435 : decode code 435 = .ok (.lcmp, 1) := by decide +kernel
theorem d_Law_law_436 : decode code 436 = .ok (.ifCond .eq 5, 3) := by decide +kernel
theorem d_Law_law_439 : decode code 439 = .ok (.iconst 0, 1) := by decide +kernel
theorem d_Law_law_440 : decode code 440 = .ok (.ireturn, 1) := by decide +kernel
theorem d_Law_law_441 : decode code 441 = .ok (.goto 370, 3) := by decide +kernel
theorem d_Law_law_444 : decode code 444 = .ok (.aload_n 1, 1) := by decide +kernel
theorem d_Law_law_445 : decode code 445 = .ok (.aload_n 0, 1) := by decide +kernel
theorem d_Law_law_446 : decode code 446 = .ok (.iload 4, 2) := by decide +kernel
theorem d_Law_law_448 : decode code 448 = .ok (.iconst 1, 1) := by decide +kernel
theorem d_Law_law_449 : decode code 449 = .ok (.iadd, 1) := by decide +kernel
theorem d_Law_law_450 : decode code 450 = .ok (.iaload, 1) := by decide +kernel
theorem d_Law_law_451 : decode code 451 = .ok (.aload_n 3, 1) := by decide +kernel
theorem d_Law_law_452 : decode code 452 = .ok (.invokestatic 77, 3) := by decide +kernel
theorem d_Law_law_455 : decode code 455 = .ok (.istore 5, 2) := by decide +kernel
theorem d_Law_law_457 : decode code 457 = .ok (.aload_n 2, 1) := by decide +kernel
theorem d_Law_law_458 : decode code 458 = .ok (.aload_n 0, 1) := by decide +kernel
theorem d_Law_law_459 : decode code 459 = .ok (.iload 4, 2) := by decide +kernel
theorem d_Law_law_461 : decode code 461 = .ok (.iconst 1, 1) := by decide +kernel
theorem d_Law_law_462 : decode code 462 = .ok (.iadd, 1) := by decide +kernel
theorem d_Law_law_463 : decode code 463 = .ok (.iaload, 1) := by decide +kernel
theorem d_Law_law_464 : decode code 464 = .ok (.invokevirtual 79, 3) := by decide +kernel
theorem d_Law_law_467 : decode code 467 = .ok (.istore 6, 2) := by decide +kernel
theorem d_Law_law_469 : decode code 469 = .ok (.aload_n 2, 1) := by decide +kernel
theorem d_Law_law_470 : decode code 470 = .ok (.invokevirtual 58, 3) := by decide +kernel
theorem d_Law_law_473 : decode code 473 = .ok (.iload 5, 2) := by decide +kernel
theorem d_Law_law_475 : decode code 475 = .ok (.if_icmp .eq 5, 3) := by decide +kernel
theorem d_Law_law_478 : decode code 478 = .ok (.iconst 0, 1) := by decide +kernel
theorem d_Law_law_479 : decode code 479 = .ok (.ireturn, 1) := by decide +kernel
theorem d_Law_law_480 : decode code 480 = .ok (.iload 5, 2) := by decide +kernel
theorem d_Law_law_482 : decode code 482 = .ok (.ifCond .ne 15, 3) := by decide +kernel
theorem d_Law_law_485 : decode code 485 = .ok (.aload_n 3, 1) := by decide +kernel
theorem d_Law_law_486 : decode code 486 = .ok (.iconst 0, 1) := by decide +kernel
theorem d_Law_law_487 : decode code 487 = .ok (.laload, 1) := by decide +kernel
theorem d_Law_law_488 : decode code 488 = .ok (.iload 6, 2) := by decide +kernel
theorem d_Law_law_490 : decode code 490 = .ok (.i2l, 1) := by decide +kernel
theorem d_Law_law_491 : decode code 491 = .ok (.lcmp, 1) := by decide +kernel
theorem d_Law_law_492 : decode code 492 = .ok (.ifCond .eq 5, 3) := by decide +kernel
theorem d_Law_law_495 : decode code 495 = .ok (.iconst 0, 1) := by decide +kernel
theorem d_Law_law_496 : decode code 496 = .ok (.ireturn, 1) := by decide +kernel
theorem d_Law_law_497 : decode code 497 = .ok (.goto 314, 3) := by decide +kernel
theorem d_Law_law_500 : decode code 500 = .ok (.aload_n 1, 1) := by decide +kernel
theorem d_Law_law_501 : decode code 501 = .ok (.aload_n 0, 1) := by decide +kernel
theorem d_Law_law_502 : decode code 502 = .ok (.iload 4, 2) := by decide +kernel
theorem d_Law_law_504 : decode code 504 = .ok (.iconst 1, 1) := by decide +kernel
theorem d_Law_law_505 : decode code 505 = .ok (.iadd, 1) := by decide +kernel
theorem d_Law_law_506 : decode code 506 = .ok (.iaload, 1) := by decide +kernel
theorem d_Law_law_507 : decode code 507 = .ok (.aload_n 3, 1) := by decide +kernel
theorem d_Law_law_508 : decode code 508 = .ok (.invokestatic 80, 3) := by decide +kernel
theorem d_Law_law_511 : decode code 511 = .ok (.istore 5, 2) := by decide +kernel
theorem d_Law_law_513 : decode code 513 = .ok (.aload_n 2, 1) := by decide +kernel
theorem d_Law_law_514 : decode code 514 = .ok (.aload_n 0, 1) := by decide +kernel
theorem d_Law_law_515 : decode code 515 = .ok (.iload 4, 2) := by decide +kernel
theorem d_Law_law_517 : decode code 517 = .ok (.iconst 1, 1) := by decide +kernel
theorem d_Law_law_518 : decode code 518 = .ok (.iadd, 1) := by decide +kernel
theorem d_Law_law_519 : decode code 519 = .ok (.iaload, 1) := by decide +kernel
theorem d_Law_law_520 : decode code 520 = .ok (.invokevirtual 82, 3) := by decide +kernel
theorem d_Law_law_523 : decode code 523 = .ok (.istore 6, 2) := by decide +kernel
theorem d_Law_law_525 : decode code 525 = .ok (.aload_n 2, 1) := by decide +kernel
theorem d_Law_law_526 : decode code 526 = .ok (.invokevirtual 58, 3) := by decide +kernel
theorem d_Law_law_529 : decode code 529 = .ok (.iload 5, 2) := by decide +kernel
theorem d_Law_law_531 : decode code 531 = .ok (.if_icmp .eq 5, 3) := by decide +kernel
theorem d_Law_law_534 : decode code 534 = .ok (.iconst 0, 1) := by decide +kernel
theorem d_Law_law_535 : decode code 535 = .ok (.ireturn, 1) := by decide +kernel
theorem d_Law_law_536 : decode code 536 = .ok (.iload 5, 2) := by decide +kernel
theorem d_Law_law_538 : decode code 538 = .ok (.ifCond .ne 22, 3) := by decide +kernel
theorem d_Law_law_541 : decode code 541 = .ok (.aload_n 3, 1) := by decide +kernel
theorem d_Law_law_542 : decode code 542 = .ok (.iconst 0, 1) := by decide +kernel
theorem d_Law_law_543 : decode code 543 = .ok (.laload, 1) := by decide +kernel
theorem d_Law_law_544 : decode code 544 = .ok (.iload 6, 2) := by decide +kernel
theorem d_Law_law_546 : decode code 546 = .ok (.ifCond .eq 7, 3) := by decide +kernel
theorem d_Law_law_549 : decode code 549 = .ok (.lconst 1, 1) := by decide +kernel
theorem d_Law_law_550 : decode code 550 = .ok (.goto 4, 3) := by decide +kernel
theorem d_Law_law_553 : decode code 553 = .ok (.lconst 0, 1) := by decide +kernel
theorem d_Law_law_554 : decode code 554 = .ok (.lcmp, 1) := by decide +kernel
theorem d_Law_law_555 : decode code 555 = .ok (.ifCond .eq 5, 3) := by decide +kernel
theorem d_Law_law_558 : decode code 558 = .ok (.iconst 0, 1) := by decide +kernel
theorem d_Law_law_559 : decode code 559 = .ok (.ireturn, 1) := by decide +kernel
theorem d_Law_law_560 : decode code 560 = .ok (.goto 251, 3) := by decide +kernel
theorem d_Law_law_563 : decode code 563 = .ok (.aload_n 1, 1) := by decide +kernel
theorem d_Law_law_564 : decode code 564 = .ok (.aload_n 0, 1) := by decide +kernel
theorem d_Law_law_565 : decode code 565 = .ok (.iload 4, 2) := by decide +kernel
theorem d_Law_law_567 : decode code 567 = .ok (.iconst 1, 1) := by decide +kernel
theorem d_Law_law_568 : decode code 568 = .ok (.iadd, 1) := by decide +kernel
theorem d_Law_law_569 : decode code 569 = .ok (.iaload, 1) := by decide +kernel
theorem d_Law_law_570 : decode code 570 = .ok (.aload_n 3, 1) := by decide +kernel
theorem d_Law_law_571 : decode code 571 = .ok (.invokestatic 83, 3) := by decide +kernel
theorem d_Law_law_574 : decode code 574 = .ok (.istore 5, 2) := by decide +kernel
theorem d_Law_law_576 : decode code 576 = .ok (.aload_n 2, 1) := by decide +kernel
theorem d_Law_law_577 : decode code 577 = .ok (.aload_n 0, 1) := by decide +kernel
theorem d_Law_law_578 : decode code 578 = .ok (.iload 4, 2) := by decide +kernel
theorem d_Law_law_580 : decode code 580 = .ok (.iconst 1, 1) := by decide +kernel
theorem d_Law_law_581 : decode code 581 = .ok (.iadd, 1) := by decide +kernel
theorem d_Law_law_582 : decode code 582 = .ok (.iaload, 1) := by decide +kernel
theorem d_Law_law_583 : decode code 583 = .ok (.invokevirtual 85, 3) := by decide +kernel
theorem d_Law_law_586 : decode code 586 = .ok (.istore 6, 2) := by decide +kernel
theorem d_Law_law_588 : decode code 588 = .ok (.aload_n 2, 1) := by decide +kernel
theorem d_Law_law_589 : decode code 589 = .ok (.invokevirtual 58, 3) := by decide +kernel
theorem d_Law_law_592 : decode code 592 = .ok (.iload 5, 2) := by decide +kernel
theorem d_Law_law_594 : decode code 594 = .ok (.if_icmp .eq 5, 3) := by decide +kernel
theorem d_Law_law_597 : decode code 597 = .ok (.iconst 0, 1) := by decide +kernel
theorem d_Law_law_598 : decode code 598 = .ok (.ireturn, 1) := by decide +kernel
theorem d_Law_law_599 : decode code 599 = .ok (.iload 5, 2) := by decide +kernel
theorem d_Law_law_601 : decode code 601 = .ok (.ifCond .ne 15, 3) := by decide +kernel
theorem d_Law_law_604 : decode code 604 = .ok (.aload_n 3, 1) := by decide +kernel
theorem d_Law_law_605 : decode code 605 = .ok (.iconst 0, 1) := by decide +kernel
theorem d_Law_law_606 : decode code 606 = .ok (.laload, 1) := by decide +kernel
theorem d_Law_law_607 : decode code 607 = .ok (.iload 6, 2) := by decide +kernel
theorem d_Law_law_609 : decode code 609 = .ok (.i2l, 1) := by decide +kernel
theorem d_Law_law_610 : decode code 610 = .ok (.lcmp, 1) := by decide +kernel
theorem d_Law_law_611 : decode code 611 = .ok (.ifCond .eq 5, 3) := by decide +kernel
theorem d_Law_law_614 : decode code 614 = .ok (.iconst 0, 1) := by decide +kernel
theorem d_Law_law_615 : decode code 615 = .ok (.ireturn, 1) := by decide +kernel
theorem d_Law_law_616 : decode code 616 = .ok (.goto 195, 3) := by decide +kernel
theorem d_Law_law_619 : decode code 619 = .ok (.aload_n 1, 1) := by decide +kernel
theorem d_Law_law_620 : decode code 620 = .ok (.aload_n 0, 1) := by decide +kernel
theorem d_Law_law_621 : decode code 621 = .ok (.iload 4, 2) := by decide +kernel
theorem d_Law_law_623 : decode code 623 = .ok (.iconst 1, 1) := by decide +kernel
theorem d_Law_law_624 : decode code 624 = .ok (.iadd, 1) := by decide +kernel
theorem d_Law_law_625 : decode code 625 = .ok (.iaload, 1) := by decide +kernel
theorem d_Law_law_626 : decode code 626 = .ok (.aload_n 0, 1) := by decide +kernel
theorem d_Law_law_627 : decode code 627 = .ok (.iload 4, 2) := by decide +kernel
theorem d_Law_law_629 : decode code 629 = .ok (.iconst 2, 1) := by decide +kernel
theorem d_Law_law_630 : decode code 630 = .ok (.iadd, 1) := by decide +kernel
theorem d_Law_law_631 : decode code 631 = .ok (.iaload, 1) := by decide +kernel
theorem d_Law_law_632 : decode code 632 = .ok (.i2l, 1) := by decide +kernel
theorem d_Law_law_633 : decode code 633 = .ok (.bipush 32, 2) := by decide +kernel
theorem d_Law_law_635 : decode code 635 = .ok (.lshl, 1) := by decide +kernel
theorem d_Law_law_636 : decode code 636 = .ok (.aload_n 0, 1) := by decide +kernel
theorem d_Law_law_637 : decode code 637 = .ok (.iload 4, 2) := by decide +kernel
theorem d_Law_law_639 : decode code 639 = .ok (.iconst 3, 1) := by decide +kernel
theorem d_Law_law_640 : decode code 640 = .ok (.iadd, 1) := by decide +kernel
theorem d_Law_law_641 : decode code 641 = .ok (.iaload, 1) := by decide +kernel
theorem d_Law_law_642 : decode code 642 = .ok (.i2l, 1) := by decide +kernel
theorem d_Law_law_643 : decode code 643 = .ok (.ldc2_w 86, 3) := by decide +kernel
theorem d_Law_law_646 : decode code 646 = .ok (.land, 1) := by decide +kernel
theorem d_Law_law_647 : decode code 647 = .ok (.lor, 1) := by decide +kernel
theorem d_Law_law_648 : decode code 648 = .ok (.aload_n 3, 1) := by decide +kernel
theorem d_Law_law_649 : decode code 649 = .ok (.invokestatic 88, 3) := by decide +kernel
theorem d_Law_law_652 : decode code 652 = .ok (.istore 5, 2) := by decide +kernel
theorem d_Law_law_654 : decode code 654 = .ok (.aload_n 2, 1) := by decide +kernel
theorem d_Law_law_655 : decode code 655 = .ok (.aload_n 0, 1) := by decide +kernel
theorem d_Law_law_656 : decode code 656 = .ok (.iload 4, 2) := by decide +kernel
theorem d_Law_law_658 : decode code 658 = .ok (.iconst 1, 1) := by decide +kernel
theorem d_Law_law_659 : decode code 659 = .ok (.iadd, 1) := by decide +kernel
theorem d_Law_law_660 : decode code 660 = .ok (.iaload, 1) := by decide +kernel
theorem d_Law_law_661 : decode code 661 = .ok (.aload_n 0, 1) := by decide +kernel
theorem d_Law_law_662 : decode code 662 = .ok (.iload 4, 2) := by decide +kernel
theorem d_Law_law_664 : decode code 664 = .ok (.iconst 2, 1) := by decide +kernel
theorem d_Law_law_665 : decode code 665 = .ok (.iadd, 1) := by decide +kernel
theorem d_Law_law_666 : decode code 666 = .ok (.iaload, 1) := by decide +kernel
theorem d_Law_law_667 : decode code 667 = .ok (.i2l, 1) := by decide +kernel
theorem d_Law_law_668 : decode code 668 = .ok (.bipush 32, 2) := by decide +kernel
theorem d_Law_law_670 : decode code 670 = .ok (.lshl, 1) := by decide +kernel
theorem d_Law_law_671 : decode code 671 = .ok (.aload_n 0, 1) := by decide +kernel
theorem d_Law_law_672 : decode code 672 = .ok (.iload 4, 2) := by decide +kernel
theorem d_Law_law_674 : decode code 674 = .ok (.iconst 3, 1) := by decide +kernel
theorem d_Law_law_675 : decode code 675 = .ok (.iadd, 1) := by decide +kernel
theorem d_Law_law_676 : decode code 676 = .ok (.iaload, 1) := by decide +kernel
theorem d_Law_law_677 : decode code 677 = .ok (.i2l, 1) := by decide +kernel
theorem d_Law_law_678 : decode code 678 = .ok (.ldc2_w 86, 3) := by decide +kernel
theorem d_Law_law_681 : decode code 681 = .ok (.land, 1) := by decide +kernel
theorem d_Law_law_682 : decode code 682 = .ok (.lor, 1) := by decide +kernel
theorem d_Law_law_683 : decode code 683 = .ok (.invokevirtual 91, 3) := by decide +kernel
theorem d_Law_law_686 : decode code 686 = .ok (.istore 6, 2) := by decide +kernel
theorem d_Law_law_688 : decode code 688 = .ok (.aload_n 2, 1) := by decide +kernel
theorem d_Law_law_689 : decode code 689 = .ok (.invokevirtual 58, 3) := by decide +kernel
theorem d_Law_law_692 : decode code 692 = .ok (.iload 5, 2) := by decide +kernel
theorem d_Law_law_694 : decode code 694 = .ok (.if_icmp .eq 5, 3) := by decide +kernel
theorem d_Law_law_697 : decode code 697 = .ok (.iconst 0, 1) := by decide +kernel
theorem d_Law_law_698 : decode code 698 = .ok (.ireturn, 1) := by decide +kernel
theorem d_Law_law_699 : decode code 699 = .ok (.iload 5, 2) := by decide +kernel
theorem d_Law_law_701 : decode code 701 = .ok (.ifCond .ne 15, 3) := by decide +kernel
theorem d_Law_law_704 : decode code 704 = .ok (.aload_n 3, 1) := by decide +kernel
theorem d_Law_law_705 : decode code 705 = .ok (.iconst 0, 1) := by decide +kernel
theorem d_Law_law_706 : decode code 706 = .ok (.laload, 1) := by decide +kernel
theorem d_Law_law_707 : decode code 707 = .ok (.iload 6, 2) := by decide +kernel
theorem d_Law_law_709 : decode code 709 = .ok (.i2l, 1) := by decide +kernel
theorem d_Law_law_710 : decode code 710 = .ok (.lcmp, 1) := by decide +kernel
theorem d_Law_law_711 : decode code 711 = .ok (.ifCond .eq 5, 3) := by decide +kernel
theorem d_Law_law_714 : decode code 714 = .ok (.iconst 0, 1) := by decide +kernel
theorem d_Law_law_715 : decode code 715 = .ok (.ireturn, 1) := by decide +kernel
theorem d_Law_law_716 : decode code 716 = .ok (.goto 95, 3) := by decide +kernel
theorem d_Law_law_719 : decode code 719 = .ok (.aload_n 1, 1) := by decide +kernel
theorem d_Law_law_720 : decode code 720 = .ok (.aload_n 0, 1) := by decide +kernel
theorem d_Law_law_721 : decode code 721 = .ok (.iload 4, 2) := by decide +kernel
theorem d_Law_law_723 : decode code 723 = .ok (.iconst 1, 1) := by decide +kernel
theorem d_Law_law_724 : decode code 724 = .ok (.iadd, 1) := by decide +kernel
theorem d_Law_law_725 : decode code 725 = .ok (.iaload, 1) := by decide +kernel
theorem d_Law_law_726 : decode code 726 = .ok (.aload_n 0, 1) := by decide +kernel
theorem d_Law_law_727 : decode code 727 = .ok (.iload 4, 2) := by decide +kernel
theorem d_Law_law_729 : decode code 729 = .ok (.iconst 2, 1) := by decide +kernel
theorem d_Law_law_730 : decode code 730 = .ok (.iadd, 1) := by decide +kernel
theorem d_Law_law_731 : decode code 731 = .ok (.iaload, 1) := by decide +kernel
theorem d_Law_law_732 : decode code 732 = .ok (.aload_n 0, 1) := by decide +kernel
theorem d_Law_law_733 : decode code 733 = .ok (.iload 4, 2) := by decide +kernel
theorem d_Law_law_735 : decode code 735 = .ok (.iconst 3, 1) := by decide +kernel
theorem d_Law_law_736 : decode code 736 = .ok (.iadd, 1) := by decide +kernel
theorem d_Law_law_737 : decode code 737 = .ok (.iaload, 1) := by decide +kernel
theorem d_Law_law_738 : decode code 738 = .ok (.ifCond .eq 7, 3) := by decide +kernel
theorem d_Law_law_741 : decode code 741 = .ok (.iconst 1, 1) := by decide +kernel
theorem d_Law_law_742 : decode code 742 = .ok (.goto 4, 3) := by decide +kernel
theorem d_Law_law_745 : decode code 745 = .ok (.iconst 0, 1) := by decide +kernel
theorem d_Law_law_746 : decode code 746 = .ok (.invokevirtual 92, 3) := by decide +kernel
theorem d_Law_law_749 : decode code 749 = .ok (.aload_n 2, 1) := by decide +kernel
theorem d_Law_law_750 : decode code 750 = .ok (.aload_n 0, 1) := by decide +kernel
theorem d_Law_law_751 : decode code 751 = .ok (.iload 4, 2) := by decide +kernel
theorem d_Law_law_753 : decode code 753 = .ok (.iconst 1, 1) := by decide +kernel
theorem d_Law_law_754 : decode code 754 = .ok (.iadd, 1) := by decide +kernel
theorem d_Law_law_755 : decode code 755 = .ok (.iaload, 1) := by decide +kernel
theorem d_Law_law_756 : decode code 756 = .ok (.aload_n 0, 1) := by decide +kernel
theorem d_Law_law_757 : decode code 757 = .ok (.iload 4, 2) := by decide +kernel
theorem d_Law_law_759 : decode code 759 = .ok (.iconst 2, 1) := by decide +kernel
theorem d_Law_law_760 : decode code 760 = .ok (.iadd, 1) := by decide +kernel
theorem d_Law_law_761 : decode code 761 = .ok (.iaload, 1) := by decide +kernel
theorem d_Law_law_762 : decode code 762 = .ok (.aload_n 0, 1) := by decide +kernel
theorem d_Law_law_763 : decode code 763 = .ok (.iload 4, 2) := by decide +kernel
theorem d_Law_law_765 : decode code 765 = .ok (.iconst 3, 1) := by decide +kernel
theorem d_Law_law_766 : decode code 766 = .ok (.iadd, 1) := by decide +kernel
theorem d_Law_law_767 : decode code 767 = .ok (.iaload, 1) := by decide +kernel
theorem d_Law_law_768 : decode code 768 = .ok (.ifCond .eq 7, 3) := by decide +kernel
theorem d_Law_law_771 : decode code 771 = .ok (.iconst 1, 1) := by decide +kernel
theorem d_Law_law_772 : decode code 772 = .ok (.goto 4, 3) := by decide +kernel
theorem d_Law_law_775 : decode code 775 = .ok (.iconst 0, 1) := by decide +kernel
theorem d_Law_law_776 : decode code 776 = .ok (.invokevirtual 96, 3) := by decide +kernel
theorem d_Law_law_779 : decode code 779 = .ok (.lcmp, 1) := by decide +kernel
theorem d_Law_law_780 : decode code 780 = .ok (.ifCond .eq 31, 3) := by decide +kernel
theorem d_Law_law_783 : decode code 783 = .ok (.iconst 0, 1) := by decide +kernel
theorem d_Law_law_784 : decode code 784 = .ok (.ireturn, 1) := by decide +kernel
theorem d_Law_law_785 : decode code 785 = .ok (.aload_n 1, 1) := by decide +kernel
theorem d_Law_law_786 : decode code 786 = .ok (.invokevirtual 97, 3) := by decide +kernel
theorem d_Law_law_789 : decode code 789 = .ok (.aload_n 2, 1) := by decide +kernel
theorem d_Law_law_790 : decode code 790 = .ok (.invokevirtual 100, 3) := by decide +kernel
theorem d_Law_law_793 : decode code 793 = .ok (.if_icmp .eq 18, 3) := by decide +kernel
theorem d_Law_law_796 : decode code 796 = .ok (.iconst 0, 1) := by decide +kernel
theorem d_Law_law_797 : decode code 797 = .ok (.ireturn, 1) := by decide +kernel
theorem d_Law_law_798 : decode code 798 = .ok (.aload_n 1, 1) := by decide +kernel
theorem d_Law_law_799 : decode code 799 = .ok (.invokevirtual 101, 3) := by decide +kernel
theorem d_Law_law_802 : decode code 802 = .ok (.aload_n 2, 1) := by decide +kernel
theorem d_Law_law_803 : decode code 803 = .ok (.invokevirtual 104, 3) := by decide +kernel
theorem d_Law_law_806 : decode code 806 = .ok (.if_icmp .eq 5, 3) := by decide +kernel
theorem d_Law_law_809 : decode code 809 = .ok (.iconst 0, 1) := by decide +kernel
theorem d_Law_law_810 : decode code 810 = .ok (.ireturn, 1) := by decide +kernel
theorem d_Law_law_811 : decode code 811 = .ok (.iinc 4 5, 3) := by decide +kernel
theorem d_Law_law_814 : decode code 814 = .ok (.goto (-791), 3) := by decide +kernel
theorem d_Law_law_817 : decode code 817 = .ok (.iconst 1, 1) := by decide +kernel
theorem d_Law_law_818 : decode code 818 = .ok (.ireturn, 1) := by decide +kernel
