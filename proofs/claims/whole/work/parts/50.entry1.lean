theorem d_LW_law_0 : decode code 0 = .ok (.new 8, 3) := by decide +kernel
theorem d_LW_law_3 : decode code 3 = .ok (.dup, 1) := by decide +kernel
theorem d_LW_law_4 : decode code 4 = .ok (.invokespecial 78, 3) := by decide +kernel
theorem d_LW_law_7 : decode code 7 = .ok (.astore_n 1, 1) := by decide +kernel
theorem d_LW_law_8 : decode code 8 = .ok (.new 79, 3) := by decide +kernel
theorem d_LW_law_11 : decode code 11 = .ok (.dup, 1) := by decide +kernel
theorem d_LW_law_12 : decode code 12 = .ok (.invokespecial 81, 3) := by decide +kernel
theorem d_LW_law_15 : decode code 15 = .ok (.astore_n 2, 1) := by decide +kernel
theorem d_LW_law_16 : decode code 16 = .ok (.iconst 1, 1) := by decide +kernel
theorem d_LW_law_17 : decode code 17 = .ok (.newarray .long, 2) := by decide +kernel
theorem d_LW_law_19 : decode code 19 = .ok (.astore_n 3, 1) := by decide +kernel
theorem d_LW_law_20 : decode code 20 = .ok (.iconst 0, 1) := by decide +kernel
theorem d_LW_law_21 : decode code 21 = .ok (.istore 4, 2) := by decide +kernel
theorem d_LW_law_23 : decode code 23 = .ok (.iload 4, 2) := by decide +kernel
theorem d_LW_law_25 : decode code 25 = .ok (.aload_n 0, 1) := by decide +kernel
theorem d_LW_law_26 : decode code 26 = .ok (.arraylength, 1) := by decide +kernel
theorem d_LW_law_27 : decode code 27 = .ok (.bipush 6, 2) := by decide +kernel
theorem d_LW_law_29 : decode code 29 = .ok (.isub, 1) := by decide +kernel
theorem d_LW_law_30 : decode code 30 = .ok (.if_icmp .gt 1389, 3) := by decide +kernel
theorem d_LW_law_33 : decode code 33 = .ok (.aload_n 0, 1) := by decide +kernel
theorem d_LW_law_34 : decode code 34 = .ok (.iload 4, 2) := by decide +kernel
theorem d_LW_law_36 : decode code 36 = .ok (.iaload, 1) := by decide +kernel
theorem d_LW_law_37 : decode code 37 = .ok (.bipush 31, 2) := by decide +kernel
theorem d_LW_law_39 : decode code 39 = .ok (.iand, 1) := by decide +kernel
theorem d_LW_law_40 : decode code 40 = .ok (.tableswitch 1373 0 17 #[88, 180, 224, 287, 343, 411, 522, 590, 682, 786, 853, 921, 989, 1057, 1113, 1193, 1261, 1317], 88) := by decide +kernel
theorem d_LW_law_128 : decode code 128 = .ok (.aload_n 1, 1) := by decide +kernel
theorem d_LW_law_129 : decode code 129 = .ok (.aload_n 0, 1) := by decide +kernel
theorem d_LW_law_130 : decode code 130 = .ok (.iload 4, 2) := by decide +kernel
theorem d_LW_law_132 : decode code 132 = .ok (.iconst 1, 1) := by decide +kernel
theorem d_LW_law_133 : decode code 133 = .ok (.iadd, 1) := by decide +kernel
theorem d_LW_law_134 : decode code 134 = .ok (.iaload, 1) := by decide +kernel
theorem d_LW_law_135 : decode code 135 = .ok (.aload_n 0, 1) := by decide +kernel
theorem d_LW_law_136 : decode code 136 = .ok (.iload 4, 2) := by decide +kernel
theorem d_LW_law_138 : decode code 138 = .ok (.iconst 2, 1) := by decide +kernel
theorem d_LW_law_139 : decode code 139 = .ok (.iadd, 1) := by decide +kernel
theorem d_LW_law_140 : decode code 140 = .ok (.iaload, 1) := by decide +kernel
theorem d_LW_law_141 : decode code 141 = .ok (.aload_n 0, 1) := by decide +kernel
theorem d_LW_law_142 : decode code 142 = .ok (.iload 4, 2) := by decide +kernel
theorem d_LW_law_144 : decode code 144 = .ok (.iconst 3, 1) := by decide +kernel
theorem d_LW_law_145 : decode code 145 = .ok (.iadd, 1) := by decide +kernel
theorem d_LW_law_146 : decode code 146 = .ok (.iaload, 1) := by decide +kernel
theorem d_LW_law_147 : decode code 147 = .ok (.aload_n 0, 1) := by decide +kernel
theorem d_LW_law_148 : decode code 148 = .ok (.iload 4, 2) := by decide +kernel
theorem d_LW_law_150 : decode code 150 = .ok (.iconst 4, 1) := by decide +kernel
theorem d_LW_law_151 : decode code 151 = .ok (.iadd, 1) := by decide +kernel
theorem d_LW_law_152 : decode code 152 = .ok (.iaload, 1) := by decide +kernel
theorem d_LW_law_153 : decode code 153 = .ok (.aload_n 3, 1) := by decide +kernel
theorem d_LW_law_154 : decode code 154 = .ok (.invokestatic 82, 3) := by decide +kernel
theorem d_LW_law_157 : decode code 157 = .ok (.istore 5, 2) := by decide +kernel
theorem d_LW_law_159 : decode code 159 = .ok (.aload_n 2, 1) := by decide +kernel
theorem d_LW_law_160 : decode code 160 = .ok (.aload_n 0, 1) := by decide +kernel
theorem d_LW_law_161 : decode code 161 = .ok (.iload 4, 2) := by decide +kernel
theorem d_LW_law_163 : decode code 163 = .ok (.iconst 1, 1) := by decide +kernel
theorem d_LW_law_164 : decode code 164 = .ok (.iadd, 1) := by decide +kernel
theorem d_LW_law_165 : decode code 165 = .ok (.iaload, 1) := by decide +kernel
theorem d_LW_law_166 : decode code 166 = .ok (.aload_n 0, 1) := by decide +kernel
theorem d_LW_law_167 : decode code 167 = .ok (.iload 4, 2) := by decide +kernel
theorem d_LW_law_169 : decode code 169 = .ok (.iconst 2, 1) := by decide +kernel
theorem d_LW_law_170 : decode code 170 = .ok (.iadd, 1) := by decide +kernel
theorem d_LW_law_171 : decode code 171 = .ok (.iaload, 1) := by decide +kernel
theorem d_LW_law_172 : decode code 172 = .ok (.aload_n 0, 1) := by decide +kernel
theorem d_LW_law_173 : decode code 173 = .ok (.iload 4, 2) := by decide +kernel
theorem d_LW_law_175 : decode code 175 = .ok (.iconst 3, 1) := by decide +kernel
theorem d_LW_law_176 : decode code 176 = .ok (.iadd, 1) := by decide +kernel
theorem d_LW_law_177 : decode code 177 = .ok (.iaload, 1) := by decide +kernel
theorem d_LW_law_178 : decode code 178 = .ok (.aload_n 0, 1) := by decide +kernel
theorem d_LW_law_179 : decode code 179 = .ok (.iload 4, 2) := by decide +kernel
theorem d_LW_law_181 : decode code 181 = .ok (.iconst 4, 1) := by decide +kernel
theorem d_LW_law_182 : decode code 182 = .ok (.iadd, 1) := by decide +kernel
theorem d_LW_law_183 : decode code 183 = .ok (.iaload, 1) := by decide +kernel
theorem d_LW_law_184 : decode code 184 = .ok (.invokevirtual 87, 3) := by decide +kernel
theorem d_LW_law_187 : decode code 187 = .ok (.istore 6, 2) := by decide +kernel
theorem d_LW_law_189 : decode code 189 = .ok (.aload_n 2, 1) := by decide +kernel
theorem d_LW_law_190 : decode code 190 = .ok (.invokevirtual 88, 3) := by decide +kernel
theorem d_LW_law_193 : decode code 193 = .ok (.iload 5, 2) := by decide +kernel
theorem d_LW_law_195 : decode code 195 = .ok (.if_icmp .eq 5, 3) := by decide +kernel
theorem d_LW_law_198 : decode code 198 = .ok (.iconst 0, 1) := by decide +kernel
theorem d_LW_law_199 : decode code 199 = .ok (.ireturn, 1) := by decide +kernel
theorem d_LW_law_200 : decode code 200 = .ok (.iload 5, 2) := by decide +kernel
theorem d_LW_law_202 : decode code 202 = .ok (.ifCond .ne 15, 3) := by decide +kernel
theorem d_LW_law_205 : decode code 205 = .ok (.aload_n 3, 1) := by decide +kernel
theorem d_LW_law_206 : decode code 206 = .ok (.iconst 0, 1) := by decide +kernel
theorem d_LW_law_207 : decode code 207 = .ok (.laload, 1) := by decide +kernel
theorem d_LW_law_208 : decode code 208 = .ok (.iload 6, 2) := by decide +kernel
theorem d_LW_law_210 : decode code 210 = .ok (.i2l, 1) := by decide +kernel
theorem d_LW_law_211 : decode code 211 = .ok (.lcmp, 1) := by decide +kernel
theorem d_LW_law_212 : decode code 212 = .ok (.ifCond .eq 5, 3) := by decide +kernel
theorem d_LW_law_215 : decode code 215 = .ok (.iconst 0, 1) := by decide +kernel
theorem d_LW_law_216 : decode code 216 = .ok (.ireturn, 1) := by decide +kernel
theorem d_LW_law_217 : decode code 217 = .ok (.goto 1196, 3) := by decide +kernel
theorem d_LW_law_220 : decode code 220 = .ok (.aload_n 1, 1) := by decide +kernel
theorem d_LW_law_221 : decode code 221 = .ok (.aload_n 3, 1) := by decide +kernel
theorem d_LW_law_222 : decode code 222 = .ok (.invokestatic 91, 3) := by decide +kernel
theorem d_LW_law_225 : decode code 225 = .ok (.istore 5, 2) := by decide +kernel
theorem d_LW_law_227 : decode code 227 = .ok (.aload_n 2, 1) := by decide +kernel
theorem d_LW_law_228 : decode code 228 = .ok (.invokevirtual 94, 3) := by decide +kernel
theorem d_LW_law_231 : decode code 231 = .ok (.istore 6, 2) := by decide +kernel
theorem d_LW_law_233 : decode code 233 = .ok (.aload_n 2, 1) := by decide +kernel
theorem d_LW_law_234 : decode code 234 = .ok (.invokevirtual 88, 3) := by decide +kernel
theorem d_LW_law_237 : decode code 237 = .ok (.iload 5, 2) := by decide +kernel
theorem d_LW_law_239 : decode code 239 = .ok (.if_icmp .eq 5, 3) := by decide +kernel
theorem d_LW_law_242 : decode code 242 = .ok (.iconst 0, 1) := by decide +kernel
theorem d_LW_law_243 : decode code 243 = .ok (.ireturn, 1) := by decide +kernel
theorem d_LW_law_244 : decode code 244 = .ok (.iload 5, 2) := by decide +kernel
theorem d_LW_law_246 : decode code 246 = .ok (.ifCond .ne 15, 3) := by decide +kernel
theorem d_LW_law_249 : decode code 249 = .ok (.aload_n 3, 1) := by decide +kernel
theorem d_LW_law_250 : decode code 250 = .ok (.iconst 0, 1) := by decide +kernel
theorem d_LW_law_251 : decode code 251 = .ok (.laload, 1) := by decide +kernel
theorem d_LW_law_252 : decode code 252 = .ok (.iload 6, 2) := by decide +kernel
theorem d_LW_law_254 : decode code 254 = .ok (.i2l, 1) := by decide +kernel
theorem d_LW_law_255 : decode code 255 = .ok (.lcmp, 1) := by decide +kernel
theorem d_LW_law_256 : decode code 256 = .ok (.ifCond .eq 5, 3) := by decide +kernel
theorem d_LW_law_259 : decode code 259 = .ok (.iconst 0, 1) := by decide +kernel
theorem d_LW_law_260 : decode code 260 = .ok (.ireturn, 1) := by decide +kernel
theorem d_LW_law_261 : decode code 261 = .ok (.goto 1152, 3) := by decide +kernel
theorem d_LW_law_264 : decode code 264 = .ok (.aload_n 1, 1) := by decide +kernel
theorem d_LW_law_265 : decode code 265 = .ok (.aload_n 0, 1) := by decide +kernel
theorem d_LW_law_266 : decode code 266 = .ok (.iload 4, 2) := by decide +kernel
theorem d_LW_law_268 : decode code 268 = .ok (.iconst 1, 1) := by decide +kernel
theorem d_LW_law_269 : decode code 269 = .ok (.iadd, 1) := by decide +kernel
theorem d_LW_law_270 : decode code 270 = .ok (.iaload, 1) := by decide +kernel
theorem d_LW_law_271 : decode code 271 = .ok (.aload_n 3, 1) := by decide +kernel
theorem d_LW_law_272 : decode code 272 = .ok (.invokestatic 95, 3) := by decide +kernel
theorem d_LW_law_275 : decode code 275 = .ok (.istore 5, 2) := by decide +kernel
theorem d_LW_law_277 : decode code 277 = .ok (.aload_n 2, 1) := by decide +kernel
theorem d_LW_law_278 : decode code 278 = .ok (.aload_n 0, 1) := by decide +kernel
theorem d_LW_law_279 : decode code 279 = .ok (.iload 4, 2) := by decide +kernel
theorem d_LW_law_281 : decode code 281 = .ok (.iconst 1, 1) := by decide +kernel
theorem d_LW_law_282 : decode code 282 = .ok (.iadd, 1) := by decide +kernel
theorem d_LW_law_283 : decode code 283 = .ok (.iaload, 1) := by decide +kernel
theorem d_LW_law_284 : decode code 284 = .ok (.invokevirtual 98, 3) := by decide +kernel
theorem d_LW_law_287 : decode code 287 = .ok (.istore 6, 2) := by decide +kernel
theorem d_LW_law_289 : decode code 289 = .ok (.aload_n 2, 1) := by decide +kernel
theorem d_LW_law_290 : decode code 290 = .ok (.invokevirtual 88, 3) := by decide +kernel
theorem d_LW_law_293 : decode code 293 = .ok (.iload 5, 2) := by decide +kernel
theorem d_LW_law_295 : decode code 295 = .ok (.if_icmp .eq 5, 3) := by decide +kernel
theorem d_LW_law_298 : decode code 298 = .ok (.iconst 0, 1) := by decide +kernel
theorem d_LW_law_299 : decode code 299 = .ok (.ireturn, 1) := by decide +kernel
theorem d_LW_law_300 : decode code 300 = .ok (.iload 5, 2) := by decide +kernel
theorem d_LW_law_302 : decode code 302 = .ok (.ifCond .ne 22, 3) := by decide +kernel
theorem d_LW_law_305 : decode code 305 = .ok (.aload_n 3, 1) := by decide +kernel
theorem d_LW_law_306 : decode code 306 = .ok (.iconst 0, 1) := by decide +kernel
theorem d_LW_law_307 : decode code 307 = .ok (.laload, 1) := by decide +kernel
theorem d_LW_law_308 : decode code 308 = .ok (.iload 6, 2) := by decide +kernel
theorem d_LW_law_310 : decode code 310 = .ok (.ifCond .eq 7, 3) := by decide +kernel
theorem d_LW_law_313 : decode code 313 = .ok (.lconst 1, 1) := by decide +kernel
theorem d_LW_law_314 : decode code 314 = .ok (.goto 4, 3) := by decide +kernel
theorem d_LW_law_317 : decode code 317 = .ok (.lconst 0, 1) := by decide +kernel
theorem d_LW_law_318 : decode code 318 = .ok (.lcmp, 1) := by decide +kernel
theorem d_LW_law_319 : decode code 319 = .ok (.ifCond .eq 5, 3) := by decide +kernel
theorem d_LW_law_322 : decode code 322 = .ok (.iconst 0, 1) := by decide +kernel
theorem d_LW_law_323 : decode code 323 = .ok (.ireturn, 1) := by decide +kernel
theorem d_LW_law_324 : decode code 324 = .ok (.goto 1089, 3) := by decide +kernel
theorem d_LW_law_327 : decode code 327 = .ok (.aload_n 1, 1) := by decide +kernel
theorem d_LW_law_328 : decode code 328 = .ok (.aload_n 0, 1) := by decide +kernel
theorem d_LW_law_329 : decode code 329 = .ok (.iload 4, 2) := by decide +kernel
theorem d_LW_law_331 : decode code 331 = .ok (.iconst 1, 1) := by decide +kernel
theorem d_LW_law_332 : decode code 332 = .ok (.iadd, 1) := by decide +kernel
theorem d_LW_law_333 : decode code 333 = .ok (.iaload, 1) := by decide +kernel
theorem d_LW_law_334 : decode code 334 = .ok (.aload_n 3, 1) := by decide +kernel
theorem d_LW_law_335 : decode code 335 = .ok (.invokestatic 99, 3) := by decide +kernel
theorem d_LW_law_338 : decode code 338 = .ok (.istore 5, 2) := by decide +kernel
theorem d_LW_law_340 : decode code 340 = .ok (.aload_n 2, 1) := by decide +kernel
theorem d_LW_law_341 : decode code 341 = .ok (.aload_n 0, 1) := by decide +kernel
theorem d_LW_law_342 : decode code 342 = .ok (.iload 4, 2) := by decide +kernel
theorem d_LW_law_344 : decode code 344 = .ok (.iconst 1, 1) := by decide +kernel
theorem d_LW_law_345 : decode code 345 = .ok (.iadd, 1) := by decide +kernel
theorem d_LW_law_346 : decode code 346 = .ok (.iaload, 1) := by decide +kernel
theorem d_LW_law_347 : decode code 347 = .ok (.invokevirtual 101, 3) := by decide +kernel
theorem d_LW_law_350 : decode code 350 = .ok (.istore 6, 2) := by decide +kernel
theorem d_LW_law_352 : decode code 352 = .ok (.aload_n 2, 1) := by decide +kernel
theorem d_LW_law_353 : decode code 353 = .ok (.invokevirtual 88, 3) := by decide +kernel
theorem d_LW_law_356 : decode code 356 = .ok (.iload 5, 2) := by decide +kernel
theorem d_LW_law_358 : decode code 358 = .ok (.if_icmp .eq 5, 3) := by decide +kernel
theorem d_LW_law_361 : decode code 361 = .ok (.iconst 0, 1) := by decide +kernel
theorem d_LW_law_362 : decode code 362 = .ok (.ireturn, 1) := by decide +kernel
theorem d_LW_law_363 : decode code 363 = .ok (.iload 5, 2) := by decide +kernel
theorem d_LW_law_365 : decode code 365 = .ok (.ifCond .ne 15, 3) := by decide +kernel
theorem d_LW_law_368 : decode code 368 = .ok (.aload_n 3, 1) := by decide +kernel
theorem d_LW_law_369 : decode code 369 = .ok (.iconst 0, 1) := by decide +kernel
theorem d_LW_law_370 : decode code 370 = .ok (.laload, 1) := by decide +kernel
theorem d_LW_law_371 : decode code 371 = .ok (.iload 6, 2) := by decide +kernel
theorem d_LW_law_373 : decode code 373 = .ok (.i2l, 1) := by decide +kernel
theorem d_LW_law_374 : decode code 374 = .ok (.lcmp, 1) := by decide +kernel
theorem d_LW_law_375 : decode code 375 = .ok (.ifCond .eq 5, 3) := by decide +kernel
theorem d_LW_law_378 : decode code 378 = .ok (.iconst 0, 1) := by decide +kernel
theorem d_LW_law_379 : decode code 379 = .ok (.ireturn, 1) := by decide +kernel
theorem d_LW_law_380 : decode code 380 = .ok (.goto 1033, 3) := by decide +kernel
theorem d_LW_law_383 : decode code 383 = .ok (.aload_n 1, 1) := by decide +kernel
theorem d_LW_law_384 : decode code 384 = .ok (.aload_n 0, 1) := by decide +kernel
theorem d_LW_law_385 : decode code 385 = .ok (.iload 4, 2) := by decide +kernel
theorem d_LW_law_387 : decode code 387 = .ok (.iconst 1, 1) := by decide +kernel
theorem d_LW_law_388 : decode code 388 = .ok (.iadd, 1) := by decide +kernel
theorem d_LW_law_389 : decode code 389 = .ok (.iaload, 1) := by decide +kernel
theorem d_LW_law_390 : decode code 390 = .ok (.aload_n 0, 1) := by decide +kernel
theorem d_LW_law_391 : decode code 391 = .ok (.iload 4, 2) := by decide +kernel
theorem d_LW_law_393 : decode code 393 = .ok (.iconst 2, 1) := by decide +kernel
theorem d_LW_law_394 : decode code 394 = .ok (.iadd, 1) := by decide +kernel
theorem d_LW_law_395 : decode code 395 = .ok (.iaload, 1) := by decide +kernel
theorem d_LW_law_396 : decode code 396 = .ok (.aload_n 3, 1) := by decide +kernel
theorem d_LW_law_397 : decode code 397 = .ok (.invokestatic 102, 3) := by decide +kernel
theorem d_LW_law_400 : decode code 400 = .ok (.istore 5, 2) := by decide +kernel
theorem d_LW_law_402 : decode code 402 = .ok (.aload_n 2, 1) := by decide +kernel
theorem d_LW_law_403 : decode code 403 = .ok (.aload_n 0, 1) := by decide +kernel
theorem d_LW_law_404 : decode code 404 = .ok (.iload 4, 2) := by decide +kernel
theorem d_LW_law_406 : decode code 406 = .ok (.iconst 1, 1) := by decide +kernel
theorem d_LW_law_407 : decode code 407 = .ok (.iadd, 1) := by decide +kernel
theorem d_LW_law_408 : decode code 408 = .ok (.iaload, 1) := by decide +kernel
theorem d_LW_law_409 : decode code 409 = .ok (.aload_n 0, 1) := by decide +kernel
theorem d_LW_law_410 : decode code 410 = .ok (.iload 4, 2) := by decide +kernel
theorem d_LW_law_412 : decode code 412 = .ok (.iconst 2, 1) := by decide +kernel
theorem d_LW_law_413 : decode code 413 = .ok (.iadd, 1) := by decide +kernel
theorem d_LW_law_414 : decode code 414 = .ok (.iaload, 1) := by decide +kernel
theorem d_LW_law_415 : decode code 415 = .ok (.invokevirtual 105, 3) := by decide +kernel
theorem d_LW_law_418 : decode code 418 = .ok (.istore 6, 2) := by decide +kernel
theorem d_LW_law_420 : decode code 420 = .ok (.aload_n 2, 1) := by decide +kernel
theorem d_LW_law_421 : decode code 421 = .ok (.invokevirtual 88, 3) := by decide +kernel
theorem d_LW_law_424 : decode code 424 = .ok (.iload 5, 2) := by decide +kernel
theorem d_LW_law_426 : decode code 426 = .ok (.if_icmp .eq 5, 3) := by decide +kernel
theorem d_LW_law_429 : decode code 429 = .ok (.iconst 0, 1) := by decide +kernel
theorem d_LW_law_430 : decode code 430 = .ok (.ireturn, 1) := by decide +kernel
theorem d_LW_law_431 : decode code 431 = .ok (.iload 5, 2) := by decide +kernel
theorem d_LW_law_433 : decode code 433 = .ok (.ifCond .ne 15, 3) := by decide +kernel
theorem d_LW_law_436 : decode code 436 = .ok (.aload_n 3, 1) := by decide +kernel
theorem d_LW_law_437 : decode code 437 = .ok (.iconst 0, 1) := by decide +kernel
theorem d_LW_law_438 : decode code 438 = .ok (.laload, 1) := by decide +kernel
theorem d_LW_law_439 : decode code 439 = .ok (.iload 6, 2) := by decide +kernel
theorem d_LW_law_441 : decode code 441 = .ok (.i2l, 1) := by decide +kernel
theorem d_LW_law_442 : decode code 442 = .ok (.lcmp, 1) := by decide +kernel
theorem d_LW_law_443 : decode code 443 = .ok (.ifCond .eq 5, 3) := by decide +kernel
theorem d_LW_law_446 : decode code 446 = .ok (.iconst 0, 1) := by decide +kernel
theorem d_LW_law_447 : decode code 447 = .ok (.ireturn, 1) := by decide +kernel
theorem d_LW_law_448 : decode code 448 = .ok (.goto 965, 3) := by decide +kernel
theorem d_LW_law_451 : decode code 451 = .ok (.aload_n 1, 1) := by decide +kernel
theorem d_LW_law_452 : decode code 452 = .ok (.aload_n 0, 1) := by decide +kernel
theorem d_LW_law_453 : decode code 453 = .ok (.iload 4, 2) := by decide +kernel
theorem d_LW_law_455 : decode code 455 = .ok (.iconst 1, 1) := by decide +kernel
theorem d_LW_law_456 : decode code 456 = .ok (.iadd, 1) := by decide +kernel
theorem d_LW_law_457 : decode code 457 = .ok (.iaload, 1) := by decide +kernel
theorem d_LW_law_458 : decode code 458 = .ok (.aload_n 0, 1) := by decide +kernel
theorem d_LW_law_459 : decode code 459 = .ok (.iload 4, 2) := by decide +kernel
theorem d_LW_law_461 : decode code 461 = .ok (.iconst 2, 1) := by decide +kernel
theorem d_LW_law_462 : decode code 462 = .ok (.iadd, 1) := by decide +kernel
theorem d_LW_law_463 : decode code 463 = .ok (.iaload, 1) := by decide +kernel
theorem d_LW_law_464 : decode code 464 = .ok (.aload_n 0, 1) := by decide +kernel
theorem d_LW_law_465 : decode code 465 = .ok (.iload 4, 2) := by decide +kernel
theorem d_LW_law_467 : decode code 467 = .ok (.iconst 3, 1) := by decide +kernel
theorem d_LW_law_468 : decode code 468 = .ok (.iadd, 1) := by decide +kernel
theorem d_LW_law_469 : decode code 469 = .ok (.iaload, 1) := by decide +kernel
theorem d_LW_law_470 : decode code 470 = .ok (.i2l, 1) := by decide +kernel
theorem d_LW_law_471 : decode code 471 = .ok (.bipush 32, 2) := by decide +kernel
theorem d_LW_law_473 : decode code 473 = .ok (.lshl, 1) := by decide +kernel
theorem d_LW_law_474 : decode code 474 = .ok (.aload_n 0, 1) := by decide +kernel
theorem d_LW_law_475 : decode code 475 = .ok (.iload 4, 2) := by decide +kernel
theorem d_LW_law_477 : decode code 477 = .ok (.iconst 4, 1) := by decide +kernel
theorem d_LW_law_478 : decode code 478 = .ok (.iadd, 1) := by decide +kernel
theorem d_LW_law_479 : decode code 479 = .ok (.iaload, 1) := by decide +kernel
theorem d_LW_law_480 : decode code 480 = .ok (.i2l, 1) := by decide +kernel
theorem d_LW_law_481 : decode code 481 = .ok (.ldc2_w 106, 3) := by decide +kernel
theorem d_LW_law_484 : decode code 484 = .ok (.land, 1) := by decide +kernel
theorem d_LW_law_485 : decode code 485 = .ok (.lor, 1) := by decide +kernel
theorem d_LW_law_486 : decode code 486 = .ok (.aload_n 3, 1) := by decide +kernel
theorem d_LW_law_487 : decode code 487 = .ok (.invokestatic 108, 3) := by decide +kernel
theorem d_LW_law_490 : decode code 490 = .ok (.istore 5, 2) := by decide +kernel
theorem d_LW_law_492 : decode code 492 = .ok (.aload_n 2, 1) := by decide +kernel
theorem d_LW_law_493 : decode code 493 = .ok (.aload_n 0, 1) := by decide +kernel
theorem d_LW_law_494 : decode code 494 = .ok (.iload 4, 2) := by decide +kernel
theorem d_LW_law_496 : decode code 496 = .ok (.iconst 1, 1) := by decide +kernel
theorem d_LW_law_497 : decode code 497 = .ok (.iadd, 1) := by decide +kernel
theorem d_LW_law_498 : decode code 498 = .ok (.iaload, 1) := by decide +kernel
theorem d_LW_law_499 : decode code 499 = .ok (.aload_n 0, 1) := by decide +kernel
theorem d_LW_law_500 : decode code 500 = .ok (.iload 4, 2) := by decide +kernel
theorem d_LW_law_502 : decode code 502 = .ok (.iconst 2, 1) := by decide +kernel
theorem d_LW_law_503 : decode code 503 = .ok (.iadd, 1) := by decide +kernel
theorem d_LW_law_504 : decode code 504 = .ok (.iaload, 1) := by decide +kernel
theorem d_LW_law_505 : decode code 505 = .ok (.aload_n 0, 1) := by decide +kernel
theorem d_LW_law_506 : decode code 506 = .ok (.iload 4, 2) := by decide +kernel
theorem d_LW_law_508 : decode code 508 = .ok (.iconst 3, 1) := by decide +kernel
theorem d_LW_law_509 : decode code 509 = .ok (.iadd, 1) := by decide +kernel
theorem d_LW_law_510 : decode code 510 = .ok (.iaload, 1) := by decide +kernel
theorem d_LW_law_511 : decode code 511 = .ok (.i2l, 1) := by decide +kernel
theorem d_LW_law_512 : decode code 512 = .ok (.bipush 32, 2) := by decide +kernel
theorem d_LW_law_514 : decode code 514 = .ok (.lshl, 1) := by decide +kernel
theorem d_LW_law_515 : decode code 515 = .ok (.aload_n 0, 1) := by decide +kernel
theorem d_LW_law_516 : decode code 516 = .ok (.iload 4, 2) := by decide +kernel
theorem d_LW_law_518 : decode code 518 = .ok (.iconst 4, 1) := by decide +kernel
theorem d_LW_law_519 : decode code 519 = .ok (.iadd, 1) := by decide +kernel
theorem d_LW_law_520 : decode code 520 = .ok (.iaload, 1) := by decide +kernel
theorem d_LW_law_521 : decode code 521 = .ok (.i2l, 1) := by decide +kernel
theorem d_LW_law_522 : decode code 522 = .ok (.ldc2_w 106, 3) := by decide +kernel
theorem d_LW_law_525 : decode code 525 = .ok (.land, 1) := by decide +kernel
theorem d_LW_law_526 : decode code 526 = .ok (.lor, 1) := by decide +kernel
theorem d_LW_law_527 : decode code 527 = .ok (.invokevirtual 111, 3) := by decide +kernel
theorem d_LW_law_530 : decode code 530 = .ok (.lstore 6, 2) := by decide +kernel
theorem d_LW_law_532 : decode code 532 = .ok (.aload_n 2, 1) := by decide +kernel
theorem d_LW_law_533 : decode code 533 = .ok (.invokevirtual 88, 3) := by decide +kernel
theorem d_LW_law_536 : decode code 536 = .ok (.iload 5, 2) := by decide +kernel
theorem d_LW_law_538 : decode code 538 = .ok (.if_icmp .eq 5, 3) := by decide +kernel
theorem d_LW_law_541 : decode code 541 = .ok (.iconst 0, 1) := by decide +kernel
theorem d_LW_law_542 : decode code 542 = .ok (.ireturn, 1) := by decide +kernel
