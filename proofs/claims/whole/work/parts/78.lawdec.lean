/-! The law's own bytes. -/
theorem d_L_0 : decode code 0 = .ok (.new 8, 3) := by decide +kernel
theorem d_L_3 : decode code 3 = .ok (.dup, 1) := by decide +kernel
theorem d_L_4 : decode code 4 = .ok (.invokespecial 36, 3) := by decide +kernel
theorem d_L_7 : decode code 7 = .ok (.astore_n 1, 1) := by decide +kernel
theorem d_L_8 : decode code 8 = .ok (.new 37, 3) := by decide +kernel
theorem d_L_11 : decode code 11 = .ok (.dup, 1) := by decide +kernel
theorem d_L_12 : decode code 12 = .ok (.invokespecial 39, 3) := by decide +kernel
theorem d_L_15 : decode code 15 = .ok (.astore_n 2, 1) := by decide +kernel
theorem d_L_16 : decode code 16 = .ok (.iconst 1, 1) := by decide +kernel
theorem d_L_17 : decode code 17 = .ok (.newarray .long, 2) := by decide +kernel
theorem d_L_19 : decode code 19 = .ok (.astore_n 3, 1) := by decide +kernel
theorem d_L_20 : decode code 20 = .ok (.iconst 0, 1) := by decide +kernel
theorem d_L_21 : decode code 21 = .ok (.istore 4, 2) := by decide +kernel
theorem d_L_23 : decode code 23 = .ok (.iload 4, 2) := by decide +kernel
theorem d_L_25 : decode code 25 = .ok (.aload_n 0, 1) := by decide +kernel
theorem d_L_26 : decode code 26 = .ok (.arraylength, 1) := by decide +kernel
theorem d_L_27 : decode code 27 = .ok (.iconst 4, 1) := by decide +kernel
theorem d_L_28 : decode code 28 = .ok (.isub, 1) := by decide +kernel
theorem d_L_29 : decode code 29 = .ok (.if_icmp .gt 506, 3) := by decide +kernel
theorem d_L_32 : decode code 32 = .ok (.aload_n 0, 1) := by decide +kernel
theorem d_L_33 : decode code 33 = .ok (.iload 4, 2) := by decide +kernel
theorem d_L_35 : decode code 35 = .ok (.iaload, 1) := by decide +kernel
theorem d_L_36 : decode code 36 = .ok (.bipush 15, 2) := by decide +kernel
theorem d_L_38 : decode code 38 = .ok (.iand, 1) := by decide +kernel
theorem d_L_39 : decode code 39 = .ok (.tableswitch 490 0 10 #[57, 157, 170, 183, 239, 252, 308, 352, 365, 378, 434], 57) := by decide +kernel
theorem d_L_96 : decode code 96 = .ok (.aload_n 1, 1) := by decide +kernel
theorem d_L_97 : decode code 97 = .ok (.aload_n 0, 1) := by decide +kernel
theorem d_L_98 : decode code 98 = .ok (.iload 4, 2) := by decide +kernel
theorem d_L_100 : decode code 100 = .ok (.iconst 1, 1) := by decide +kernel
theorem d_L_101 : decode code 101 = .ok (.iadd, 1) := by decide +kernel
theorem d_L_102 : decode code 102 = .ok (.iaload, 1) := by decide +kernel
theorem d_L_103 : decode code 103 = .ok (.i2l, 1) := by decide +kernel
theorem d_L_104 : decode code 104 = .ok (.bipush 32, 2) := by decide +kernel
theorem d_L_106 : decode code 106 = .ok (.lshl, 1) := by decide +kernel
theorem d_L_107 : decode code 107 = .ok (.aload_n 0, 1) := by decide +kernel
theorem d_L_108 : decode code 108 = .ok (.iload 4, 2) := by decide +kernel
theorem d_L_110 : decode code 110 = .ok (.iconst 2, 1) := by decide +kernel
theorem d_L_111 : decode code 111 = .ok (.iadd, 1) := by decide +kernel
theorem d_L_112 : decode code 112 = .ok (.iaload, 1) := by decide +kernel
theorem d_L_113 : decode code 113 = .ok (.i2l, 1) := by decide +kernel
theorem d_L_114 : decode code 114 = .ok (.ldc2_w 40, 3) := by decide +kernel
theorem d_L_117 : decode code 117 = .ok (.land, 1) := by decide +kernel
theorem d_L_118 : decode code 118 = .ok (.lor, 1) := by decide +kernel
theorem d_L_119 : decode code 119 = .ok (.aload_n 0, 1) := by decide +kernel
theorem d_L_120 : decode code 120 = .ok (.iload 4, 2) := by decide +kernel
theorem d_L_122 : decode code 122 = .ok (.iconst 3, 1) := by decide +kernel
theorem d_L_123 : decode code 123 = .ok (.iadd, 1) := by decide +kernel
theorem d_L_124 : decode code 124 = .ok (.iaload, 1) := by decide +kernel
theorem d_L_125 : decode code 125 = .ok (.aload_n 3, 1) := by decide +kernel
theorem d_L_126 : decode code 126 = .ok (.invokestatic 42, 3) := by decide +kernel
theorem d_L_129 : decode code 129 = .ok (.istore 5, 2) := by decide +kernel
theorem d_L_131 : decode code 131 = .ok (.aload_n 2, 1) := by decide +kernel
theorem d_L_132 : decode code 132 = .ok (.aload_n 0, 1) := by decide +kernel
theorem d_L_133 : decode code 133 = .ok (.iload 4, 2) := by decide +kernel
theorem d_L_135 : decode code 135 = .ok (.iconst 1, 1) := by decide +kernel
theorem d_L_136 : decode code 136 = .ok (.iadd, 1) := by decide +kernel
theorem d_L_137 : decode code 137 = .ok (.iaload, 1) := by decide +kernel
theorem d_L_138 : decode code 138 = .ok (.i2l, 1) := by decide +kernel
theorem d_L_139 : decode code 139 = .ok (.bipush 32, 2) := by decide +kernel
theorem d_L_141 : decode code 141 = .ok (.lshl, 1) := by decide +kernel
theorem d_L_142 : decode code 142 = .ok (.aload_n 0, 1) := by decide +kernel
theorem d_L_143 : decode code 143 = .ok (.iload 4, 2) := by decide +kernel
theorem d_L_145 : decode code 145 = .ok (.iconst 2, 1) := by decide +kernel
theorem d_L_146 : decode code 146 = .ok (.iadd, 1) := by decide +kernel
theorem d_L_147 : decode code 147 = .ok (.iaload, 1) := by decide +kernel
theorem d_L_148 : decode code 148 = .ok (.i2l, 1) := by decide +kernel
theorem d_L_149 : decode code 149 = .ok (.ldc2_w 40, 3) := by decide +kernel
theorem d_L_152 : decode code 152 = .ok (.land, 1) := by decide +kernel
theorem d_L_153 : decode code 153 = .ok (.lor, 1) := by decide +kernel
theorem d_L_154 : decode code 154 = .ok (.aload_n 0, 1) := by decide +kernel
theorem d_L_155 : decode code 155 = .ok (.iload 4, 2) := by decide +kernel
theorem d_L_157 : decode code 157 = .ok (.iconst 3, 1) := by decide +kernel
theorem d_L_158 : decode code 158 = .ok (.iadd, 1) := by decide +kernel
theorem d_L_159 : decode code 159 = .ok (.iaload, 1) := by decide +kernel
theorem d_L_160 : decode code 160 = .ok (.invokevirtual 47, 3) := by decide +kernel
theorem d_L_163 : decode code 163 = .ok (.istore 6, 2) := by decide +kernel
theorem d_L_165 : decode code 165 = .ok (.aload_n 2, 1) := by decide +kernel
theorem d_L_166 : decode code 166 = .ok (.invokevirtual 48, 3) := by decide +kernel
theorem d_L_169 : decode code 169 = .ok (.iload 5, 2) := by decide +kernel
theorem d_L_171 : decode code 171 = .ok (.if_icmp .eq 5, 3) := by decide +kernel
theorem d_L_174 : decode code 174 = .ok (.iconst 0, 1) := by decide +kernel
theorem d_L_175 : decode code 175 = .ok (.ireturn, 1) := by decide +kernel
theorem d_L_176 : decode code 176 = .ok (.iload 5, 2) := by decide +kernel
theorem d_L_178 : decode code 178 = .ok (.ifCond .ne 15, 3) := by decide +kernel
theorem d_L_181 : decode code 181 = .ok (.aload_n 3, 1) := by decide +kernel
theorem d_L_182 : decode code 182 = .ok (.iconst 0, 1) := by decide +kernel
theorem d_L_183 : decode code 183 = .ok (.laload, 1) := by decide +kernel
theorem d_L_184 : decode code 184 = .ok (.iload 6, 2) := by decide +kernel
theorem d_L_186 : decode code 186 = .ok (.i2l, 1) := by decide +kernel
theorem d_L_187 : decode code 187 = .ok (.lcmp, 1) := by decide +kernel
theorem d_L_188 : decode code 188 = .ok (.ifCond .eq 5, 3) := by decide +kernel
theorem d_L_191 : decode code 191 = .ok (.iconst 0, 1) := by decide +kernel
theorem d_L_192 : decode code 192 = .ok (.ireturn, 1) := by decide +kernel
theorem d_L_193 : decode code 193 = .ok (.goto 336, 3) := by decide +kernel
theorem d_L_196 : decode code 196 = .ok (.aload_n 1, 1) := by decide +kernel
theorem d_L_197 : decode code 197 = .ok (.invokevirtual 51, 3) := by decide +kernel
theorem d_L_200 : decode code 200 = .ok (.aload_n 2, 1) := by decide +kernel
theorem d_L_201 : decode code 201 = .ok (.invokevirtual 54, 3) := by decide +kernel
theorem d_L_204 : decode code 204 = .ok (.if_icmp .eq 325, 3) := by decide +kernel
theorem d_L_207 : decode code 207 = .ok (.iconst 0, 1) := by decide +kernel
theorem d_L_208 : decode code 208 = .ok (.ireturn, 1) := by decide +kernel
theorem d_L_209 : decode code 209 = .ok (.aload_n 1, 1) := by decide +kernel
theorem d_L_210 : decode code 210 = .ok (.invokevirtual 55, 3) := by decide +kernel
theorem d_L_213 : decode code 213 = .ok (.aload_n 2, 1) := by decide +kernel
theorem d_L_214 : decode code 214 = .ok (.invokevirtual 58, 3) := by decide +kernel
theorem d_L_217 : decode code 217 = .ok (.if_icmp .eq 312, 3) := by decide +kernel
theorem d_L_220 : decode code 220 = .ok (.iconst 0, 1) := by decide +kernel
theorem d_L_221 : decode code 221 = .ok (.ireturn, 1) := by decide +kernel
theorem d_L_222 : decode code 222 = .ok (.aload_n 1, 1) := by decide +kernel
theorem d_L_223 : decode code 223 = .ok (.aload_n 0, 1) := by decide +kernel
theorem d_L_224 : decode code 224 = .ok (.iload 4, 2) := by decide +kernel
theorem d_L_226 : decode code 226 = .ok (.iconst 1, 1) := by decide +kernel
theorem d_L_227 : decode code 227 = .ok (.iadd, 1) := by decide +kernel
theorem d_L_228 : decode code 228 = .ok (.iaload, 1) := by decide +kernel
theorem d_L_229 : decode code 229 = .ok (.aload_n 3, 1) := by decide +kernel
theorem d_L_230 : decode code 230 = .ok (.invokestatic 59, 3) := by decide +kernel
theorem d_L_233 : decode code 233 = .ok (.istore 5, 2) := by decide +kernel
theorem d_L_235 : decode code 235 = .ok (.aload_n 2, 1) := by decide +kernel
theorem d_L_236 : decode code 236 = .ok (.aload_n 0, 1) := by decide +kernel
theorem d_L_237 : decode code 237 = .ok (.iload 4, 2) := by decide +kernel
theorem d_L_239 : decode code 239 = .ok (.iconst 1, 1) := by decide +kernel
theorem d_L_240 : decode code 240 = .ok (.iadd, 1) := by decide +kernel
theorem d_L_241 : decode code 241 = .ok (.iaload, 1) := by decide +kernel
theorem d_L_242 : decode code 242 = .ok (.invokevirtual 62, 3) := by decide +kernel
theorem d_L_245 : decode code 245 = .ok (.istore 6, 2) := by decide +kernel
theorem d_L_247 : decode code 247 = .ok (.aload_n 2, 1) := by decide +kernel
theorem d_L_248 : decode code 248 = .ok (.invokevirtual 48, 3) := by decide +kernel
theorem d_L_251 : decode code 251 = .ok (.iload 5, 2) := by decide +kernel
theorem d_L_253 : decode code 253 = .ok (.if_icmp .eq 5, 3) := by decide +kernel
theorem d_L_256 : decode code 256 = .ok (.iconst 0, 1) := by decide +kernel
theorem d_L_257 : decode code 257 = .ok (.ireturn, 1) := by decide +kernel
theorem d_L_258 : decode code 258 = .ok (.iload 5, 2) := by decide +kernel
theorem d_L_260 : decode code 260 = .ok (.ifCond .ne 15, 3) := by decide +kernel
theorem d_L_263 : decode code 263 = .ok (.aload_n 3, 1) := by decide +kernel
theorem d_L_264 : decode code 264 = .ok (.iconst 0, 1) := by decide +kernel
theorem d_L_265 : decode code 265 = .ok (.laload, 1) := by decide +kernel
theorem d_L_266 : decode code 266 = .ok (.iload 6, 2) := by decide +kernel
theorem d_L_268 : decode code 268 = .ok (.i2l, 1) := by decide +kernel
theorem d_L_269 : decode code 269 = .ok (.lcmp, 1) := by decide +kernel
theorem d_L_270 : decode code 270 = .ok (.ifCond .eq 5, 3) := by decide +kernel
theorem d_L_273 : decode code 273 = .ok (.iconst 0, 1) := by decide +kernel
theorem d_L_274 : decode code 274 = .ok (.ireturn, 1) := by decide +kernel
theorem d_L_275 : decode code 275 = .ok (.goto 254, 3) := by decide +kernel
theorem d_L_278 : decode code 278 = .ok (.aload_n 1, 1) := by decide +kernel
theorem d_L_279 : decode code 279 = .ok (.invokevirtual 63, 3) := by decide +kernel
theorem d_L_282 : decode code 282 = .ok (.aload_n 2, 1) := by decide +kernel
theorem d_L_283 : decode code 283 = .ok (.invokevirtual 66, 3) := by decide +kernel
theorem d_L_286 : decode code 286 = .ok (.if_icmp .eq 243, 3) := by decide +kernel
theorem d_L_289 : decode code 289 = .ok (.iconst 0, 1) := by decide +kernel
theorem d_L_290 : decode code 290 = .ok (.ireturn, 1) := by decide +kernel
theorem d_L_291 : decode code 291 = .ok (.aload_n 1, 1) := by decide +kernel
theorem d_L_292 : decode code 292 = .ok (.aload_n 0, 1) := by decide +kernel
theorem d_L_293 : decode code 293 = .ok (.iload 4, 2) := by decide +kernel
theorem d_L_295 : decode code 295 = .ok (.iconst 1, 1) := by decide +kernel
theorem d_L_296 : decode code 296 = .ok (.iadd, 1) := by decide +kernel
theorem d_L_297 : decode code 297 = .ok (.iaload, 1) := by decide +kernel
theorem d_L_298 : decode code 298 = .ok (.aload_n 3, 1) := by decide +kernel
theorem d_L_299 : decode code 299 = .ok (.invokestatic 67, 3) := by decide +kernel
theorem d_L_302 : decode code 302 = .ok (.istore 5, 2) := by decide +kernel
theorem d_L_304 : decode code 304 = .ok (.aload_n 2, 1) := by decide +kernel
theorem d_L_305 : decode code 305 = .ok (.aload_n 0, 1) := by decide +kernel
theorem d_L_306 : decode code 306 = .ok (.iload 4, 2) := by decide +kernel
theorem d_L_308 : decode code 308 = .ok (.iconst 1, 1) := by decide +kernel
theorem d_L_309 : decode code 309 = .ok (.iadd, 1) := by decide +kernel
theorem d_L_310 : decode code 310 = .ok (.iaload, 1) := by decide +kernel
theorem d_L_311 : decode code 311 = .ok (.invokevirtual 69, 3) := by decide +kernel
theorem d_L_314 : decode code 314 = .ok (.istore 6, 2) := by decide +kernel
theorem d_L_316 : decode code 316 = .ok (.aload_n 2, 1) := by decide +kernel
theorem d_L_317 : decode code 317 = .ok (.invokevirtual 48, 3) := by decide +kernel
theorem d_L_320 : decode code 320 = .ok (.iload 5, 2) := by decide +kernel
theorem d_L_322 : decode code 322 = .ok (.if_icmp .eq 5, 3) := by decide +kernel
theorem d_L_325 : decode code 325 = .ok (.iconst 0, 1) := by decide +kernel
theorem d_L_326 : decode code 326 = .ok (.ireturn, 1) := by decide +kernel
theorem d_L_327 : decode code 327 = .ok (.iload 5, 2) := by decide +kernel
theorem d_L_329 : decode code 329 = .ok (.ifCond .ne 15, 3) := by decide +kernel
theorem d_L_332 : decode code 332 = .ok (.aload_n 3, 1) := by decide +kernel
theorem d_L_333 : decode code 333 = .ok (.iconst 0, 1) := by decide +kernel
theorem d_L_334 : decode code 334 = .ok (.laload, 1) := by decide +kernel
theorem d_L_335 : decode code 335 = .ok (.iload 6, 2) := by decide +kernel
theorem d_L_337 : decode code 337 = .ok (.i2l, 1) := by decide +kernel
theorem d_L_338 : decode code 338 = .ok (.lcmp, 1) := by decide +kernel
theorem d_L_339 : decode code 339 = .ok (.ifCond .eq 5, 3) := by decide +kernel
theorem d_L_342 : decode code 342 = .ok (.iconst 0, 1) := by decide +kernel
theorem d_L_343 : decode code 343 = .ok (.ireturn, 1) := by decide +kernel
theorem d_L_344 : decode code 344 = .ok (.goto 185, 3) := by decide +kernel
theorem d_L_347 : decode code 347 = .ok (.aload_n 1, 1) := by decide +kernel
theorem d_L_348 : decode code 348 = .ok (.aload_n 3, 1) := by decide +kernel
theorem d_L_349 : decode code 349 = .ok (.invokestatic 70, 3) := by decide +kernel
theorem d_L_352 : decode code 352 = .ok (.istore 5, 2) := by decide +kernel
theorem d_L_354 : decode code 354 = .ok (.aload_n 2, 1) := by decide +kernel
theorem d_L_355 : decode code 355 = .ok (.invokevirtual 73, 3) := by decide +kernel
theorem d_L_358 : decode code 358 = .ok (.istore 6, 2) := by decide +kernel
theorem d_L_360 : decode code 360 = .ok (.aload_n 2, 1) := by decide +kernel
theorem d_L_361 : decode code 361 = .ok (.invokevirtual 48, 3) := by decide +kernel
theorem d_L_364 : decode code 364 = .ok (.iload 5, 2) := by decide +kernel
theorem d_L_366 : decode code 366 = .ok (.if_icmp .eq 5, 3) := by decide +kernel
theorem d_L_369 : decode code 369 = .ok (.iconst 0, 1) := by decide +kernel
theorem d_L_370 : decode code 370 = .ok (.ireturn, 1) := by decide +kernel
theorem d_L_371 : decode code 371 = .ok (.iload 5, 2) := by decide +kernel
theorem d_L_373 : decode code 373 = .ok (.ifCond .ne 15, 3) := by decide +kernel
theorem d_L_376 : decode code 376 = .ok (.aload_n 3, 1) := by decide +kernel
theorem d_L_377 : decode code 377 = .ok (.iconst 0, 1) := by decide +kernel
theorem d_L_378 : decode code 378 = .ok (.laload, 1) := by decide +kernel
theorem d_L_379 : decode code 379 = .ok (.iload 6, 2) := by decide +kernel
theorem d_L_381 : decode code 381 = .ok (.i2l, 1) := by decide +kernel
theorem d_L_382 : decode code 382 = .ok (.lcmp, 1) := by decide +kernel
theorem d_L_383 : decode code 383 = .ok (.ifCond .eq 5, 3) := by decide +kernel
theorem d_L_386 : decode code 386 = .ok (.iconst 0, 1) := by decide +kernel
theorem d_L_387 : decode code 387 = .ok (.ireturn, 1) := by decide +kernel
theorem d_L_388 : decode code 388 = .ok (.goto 141, 3) := by decide +kernel
theorem d_L_391 : decode code 391 = .ok (.aload_n 1, 1) := by decide +kernel
theorem d_L_392 : decode code 392 = .ok (.invokevirtual 74, 3) := by decide +kernel
theorem d_L_395 : decode code 395 = .ok (.aload_n 2, 1) := by decide +kernel
theorem d_L_396 : decode code 396 = .ok (.invokevirtual 77, 3) := by decide +kernel
theorem d_L_399 : decode code 399 = .ok (.if_icmp .eq 130, 3) := by decide +kernel
theorem d_L_402 : decode code 402 = .ok (.iconst 0, 1) := by decide +kernel
theorem d_L_403 : decode code 403 = .ok (.ireturn, 1) := by decide +kernel
theorem d_L_404 : decode code 404 = .ok (.aload_n 1, 1) := by decide +kernel
theorem d_L_405 : decode code 405 = .ok (.invokevirtual 78, 3) := by decide +kernel
theorem d_L_408 : decode code 408 = .ok (.aload_n 2, 1) := by decide +kernel
theorem d_L_409 : decode code 409 = .ok (.invokevirtual 81, 3) := by decide +kernel
theorem d_L_412 : decode code 412 = .ok (.if_icmp .eq 117, 3) := by decide +kernel
theorem d_L_415 : decode code 415 = .ok (.iconst 0, 1) := by decide +kernel
theorem d_L_416 : decode code 416 = .ok (.ireturn, 1) := by decide +kernel
theorem d_L_417 : decode code 417 = .ok (.aload_n 1, 1) := by decide +kernel
theorem d_L_418 : decode code 418 = .ok (.aload_n 0, 1) := by decide +kernel
theorem d_L_419 : decode code 419 = .ok (.iload 4, 2) := by decide +kernel
theorem d_L_421 : decode code 421 = .ok (.iconst 1, 1) := by decide +kernel
theorem d_L_422 : decode code 422 = .ok (.iadd, 1) := by decide +kernel
theorem d_L_423 : decode code 423 = .ok (.iaload, 1) := by decide +kernel
theorem d_L_424 : decode code 424 = .ok (.aload_n 3, 1) := by decide +kernel
theorem d_L_425 : decode code 425 = .ok (.invokestatic 82, 3) := by decide +kernel
theorem d_L_428 : decode code 428 = .ok (.istore 5, 2) := by decide +kernel
theorem d_L_430 : decode code 430 = .ok (.aload_n 2, 1) := by decide +kernel
theorem d_L_431 : decode code 431 = .ok (.aload_n 0, 1) := by decide +kernel
theorem d_L_432 : decode code 432 = .ok (.iload 4, 2) := by decide +kernel
theorem d_L_434 : decode code 434 = .ok (.iconst 1, 1) := by decide +kernel
theorem d_L_435 : decode code 435 = .ok (.iadd, 1) := by decide +kernel
theorem d_L_436 : decode code 436 = .ok (.iaload, 1) := by decide +kernel
theorem d_L_437 : decode code 437 = .ok (.invokevirtual 84, 3) := by decide +kernel
theorem d_L_440 : decode code 440 = .ok (.istore 6, 2) := by decide +kernel
theorem d_L_442 : decode code 442 = .ok (.aload_n 2, 1) := by decide +kernel
theorem d_L_443 : decode code 443 = .ok (.invokevirtual 48, 3) := by decide +kernel
theorem d_L_446 : decode code 446 = .ok (.iload 5, 2) := by decide +kernel
theorem d_L_448 : decode code 448 = .ok (.if_icmp .eq 5, 3) := by decide +kernel
theorem d_L_451 : decode code 451 = .ok (.iconst 0, 1) := by decide +kernel
theorem d_L_452 : decode code 452 = .ok (.ireturn, 1) := by decide +kernel
theorem d_L_453 : decode code 453 = .ok (.iload 5, 2) := by decide +kernel
theorem d_L_455 : decode code 455 = .ok (.ifCond .ne 15, 3) := by decide +kernel
theorem d_L_458 : decode code 458 = .ok (.aload_n 3, 1) := by decide +kernel
theorem d_L_459 : decode code 459 = .ok (.iconst 0, 1) := by decide +kernel
theorem d_L_460 : decode code 460 = .ok (.laload, 1) := by decide +kernel
theorem d_L_461 : decode code 461 = .ok (.iload 6, 2) := by decide +kernel
theorem d_L_463 : decode code 463 = .ok (.i2l, 1) := by decide +kernel
theorem d_L_464 : decode code 464 = .ok (.lcmp, 1) := by decide +kernel
theorem d_L_465 : decode code 465 = .ok (.ifCond .eq 5, 3) := by decide +kernel
theorem d_L_468 : decode code 468 = .ok (.iconst 0, 1) := by decide +kernel
theorem d_L_469 : decode code 469 = .ok (.ireturn, 1) := by decide +kernel
theorem d_L_470 : decode code 470 = .ok (.goto 59, 3) := by decide +kernel
theorem d_L_473 : decode code 473 = .ok (.aload_n 1, 1) := by decide +kernel
theorem d_L_474 : decode code 474 = .ok (.aload_n 0, 1) := by decide +kernel
theorem d_L_475 : decode code 475 = .ok (.iload 4, 2) := by decide +kernel
theorem d_L_477 : decode code 477 = .ok (.iconst 1, 1) := by decide +kernel
theorem d_L_478 : decode code 478 = .ok (.iadd, 1) := by decide +kernel
theorem d_L_479 : decode code 479 = .ok (.iaload, 1) := by decide +kernel
theorem d_L_480 : decode code 480 = .ok (.aload_n 3, 1) := by decide +kernel
theorem d_L_481 : decode code 481 = .ok (.invokestatic 85, 3) := by decide +kernel
theorem d_L_484 : decode code 484 = .ok (.istore 5, 2) := by decide +kernel
theorem d_L_486 : decode code 486 = .ok (.aload_n 2, 1) := by decide +kernel
theorem d_L_487 : decode code 487 = .ok (.aload_n 0, 1) := by decide +kernel
theorem d_L_488 : decode code 488 = .ok (.iload 4, 2) := by decide +kernel
theorem d_L_490 : decode code 490 = .ok (.iconst 1, 1) := by decide +kernel
theorem d_L_491 : decode code 491 = .ok (.iadd, 1) := by decide +kernel
theorem d_L_492 : decode code 492 = .ok (.iaload, 1) := by decide +kernel
theorem d_L_493 : decode code 493 = .ok (.invokevirtual 87, 3) := by decide +kernel
theorem d_L_496 : decode code 496 = .ok (.istore 6, 2) := by decide +kernel
theorem d_L_498 : decode code 498 = .ok (.aload_n 2, 1) := by decide +kernel
theorem d_L_499 : decode code 499 = .ok (.invokevirtual 48, 3) := by decide +kernel
theorem d_L_502 : decode code 502 = .ok (.iload 5, 2) := by decide +kernel
theorem d_L_504 : decode code 504 = .ok (.if_icmp .eq 5, 3) := by decide +kernel
theorem d_L_507 : decode code 507 = .ok (.iconst 0, 1) := by decide +kernel
theorem d_L_508 : decode code 508 = .ok (.ireturn, 1) := by decide +kernel
theorem d_L_509 : decode code 509 = .ok (.iload 5, 2) := by decide +kernel
theorem d_L_511 : decode code 511 = .ok (.ifCond .ne 15, 3) := by decide +kernel
theorem d_L_514 : decode code 514 = .ok (.aload_n 3, 1) := by decide +kernel
theorem d_L_515 : decode code 515 = .ok (.iconst 0, 1) := by decide +kernel
theorem d_L_516 : decode code 516 = .ok (.laload, 1) := by decide +kernel
theorem d_L_517 : decode code 517 = .ok (.iload 6, 2) := by decide +kernel
theorem d_L_519 : decode code 519 = .ok (.i2l, 1) := by decide +kernel
theorem d_L_520 : decode code 520 = .ok (.lcmp, 1) := by decide +kernel
theorem d_L_521 : decode code 521 = .ok (.ifCond .eq 5, 3) := by decide +kernel
theorem d_L_524 : decode code 524 = .ok (.iconst 0, 1) := by decide +kernel
theorem d_L_525 : decode code 525 = .ok (.ireturn, 1) := by decide +kernel
theorem d_L_526 : decode code 526 = .ok (.goto 3, 3) := by decide +kernel
theorem d_L_529 : decode code 529 = .ok (.iinc 4 4, 3) := by decide +kernel
theorem d_L_532 : decode code 532 = .ok (.goto (-509), 3) := by decide +kernel
theorem d_L_535 : decode code 535 = .ok (.iconst 1, 1) := by decide +kernel
theorem d_L_536 : decode code 536 = .ok (.ireturn, 1) := by decide +kernel
