theorem d_law_0 : decode code 0 = .ok (.new 8, 3) := by decide +kernel
theorem d_law_3 : decode code 3 = .ok (.dup, 1) := by decide +kernel
theorem d_law_4 : decode code 4 = .ok (.invokespecial 90, 3) := by decide +kernel
theorem d_law_7 : decode code 7 = .ok (.astore_n 1, 1) := by decide +kernel
theorem d_law_8 : decode code 8 = .ok (.new 91, 3) := by decide +kernel
theorem d_law_11 : decode code 11 = .ok (.dup, 1) := by decide +kernel
theorem d_law_12 : decode code 12 = .ok (.invokespecial 93, 3) := by decide +kernel
theorem d_law_15 : decode code 15 = .ok (.astore_n 2, 1) := by decide +kernel
theorem d_law_16 : decode code 16 = .ok (.iconst 1, 1) := by decide +kernel
theorem d_law_17 : decode code 17 = .ok (.newarray .long, 2) := by decide +kernel
theorem d_law_19 : decode code 19 = .ok (.astore_n 3, 1) := by decide +kernel
theorem d_law_20 : decode code 20 = .ok (.iconst 0, 1) := by decide +kernel
theorem d_law_21 : decode code 21 = .ok (.istore 4, 2) := by decide +kernel
theorem d_law_23 : decode code 23 = .ok (.iload 4, 2) := by decide +kernel
theorem d_law_25 : decode code 25 = .ok (.aload_n 0, 1) := by decide +kernel
theorem d_law_26 : decode code 26 = .ok (.arraylength, 1) := by decide +kernel
theorem d_law_27 : decode code 27 = .ok (.iconst 5, 1) := by decide +kernel
theorem d_law_28 : decode code 28 = .ok (.isub, 1) := by decide +kernel
theorem d_law_29 : decode code 29 = .ok (.if_icmp .gt 1606, 3) := by decide +kernel
theorem d_law_32 : decode code 32 = .ok (.aload_n 0, 1) := by decide +kernel
theorem d_law_33 : decode code 33 = .ok (.iload 4, 2) := by decide +kernel
theorem d_law_35 : decode code 35 = .ok (.iaload, 1) := by decide +kernel
theorem d_law_36 : decode code 36 = .ok (.bipush 31, 2) := by decide +kernel
theorem d_law_38 : decode code 38 = .ok (.iand, 1) := by decide +kernel
theorem d_law_39 : decode code 39 = .ok (.tableswitch 1590 0 21 #[101, 193, 296, 364, 456, 536, 616, 684, 740, 808, 888, 932, 995, 1051, 1107, 1163, 1219, 1287, 1335, 1410, 1478, 1534], 101) := by decide +kernel
theorem d_law_140 : decode code 140 = .ok (.aload_n 1, 1) := by decide +kernel
theorem d_law_141 : decode code 141 = .ok (.aload_n 0, 1) := by decide +kernel
theorem d_law_142 : decode code 142 = .ok (.iload 4, 2) := by decide +kernel
theorem d_law_144 : decode code 144 = .ok (.iconst 1, 1) := by decide +kernel
theorem d_law_145 : decode code 145 = .ok (.iadd, 1) := by decide +kernel
theorem d_law_146 : decode code 146 = .ok (.iaload, 1) := by decide +kernel
theorem d_law_147 : decode code 147 = .ok (.aload_n 0, 1) := by decide +kernel
theorem d_law_148 : decode code 148 = .ok (.iload 4, 2) := by decide +kernel
theorem d_law_150 : decode code 150 = .ok (.iconst 2, 1) := by decide +kernel
theorem d_law_151 : decode code 151 = .ok (.iadd, 1) := by decide +kernel
theorem d_law_152 : decode code 152 = .ok (.iaload, 1) := by decide +kernel
theorem d_law_153 : decode code 153 = .ok (.aload_n 0, 1) := by decide +kernel
theorem d_law_154 : decode code 154 = .ok (.iload 4, 2) := by decide +kernel
theorem d_law_156 : decode code 156 = .ok (.iconst 3, 1) := by decide +kernel
theorem d_law_157 : decode code 157 = .ok (.iadd, 1) := by decide +kernel
theorem d_law_158 : decode code 158 = .ok (.iaload, 1) := by decide +kernel
theorem d_law_159 : decode code 159 = .ok (.aload_n 0, 1) := by decide +kernel
theorem d_law_160 : decode code 160 = .ok (.iload 4, 2) := by decide +kernel
theorem d_law_162 : decode code 162 = .ok (.iconst 4, 1) := by decide +kernel
theorem d_law_163 : decode code 163 = .ok (.iadd, 1) := by decide +kernel
theorem d_law_164 : decode code 164 = .ok (.iaload, 1) := by decide +kernel
theorem d_law_165 : decode code 165 = .ok (.aload_n 3, 1) := by decide +kernel
theorem d_law_166 : decode code 166 = .ok (.invokestatic 94, 3) := by decide +kernel
theorem d_law_169 : decode code 169 = .ok (.istore 5, 2) := by decide +kernel
theorem d_law_171 : decode code 171 = .ok (.aload_n 2, 1) := by decide +kernel
theorem d_law_172 : decode code 172 = .ok (.aload_n 0, 1) := by decide +kernel
theorem d_law_173 : decode code 173 = .ok (.iload 4, 2) := by decide +kernel
theorem d_law_175 : decode code 175 = .ok (.iconst 1, 1) := by decide +kernel
theorem d_law_176 : decode code 176 = .ok (.iadd, 1) := by decide +kernel
theorem d_law_177 : decode code 177 = .ok (.iaload, 1) := by decide +kernel
theorem d_law_178 : decode code 178 = .ok (.aload_n 0, 1) := by decide +kernel
theorem d_law_179 : decode code 179 = .ok (.iload 4, 2) := by decide +kernel
theorem d_law_181 : decode code 181 = .ok (.iconst 2, 1) := by decide +kernel
theorem d_law_182 : decode code 182 = .ok (.iadd, 1) := by decide +kernel
theorem d_law_183 : decode code 183 = .ok (.iaload, 1) := by decide +kernel
theorem d_law_184 : decode code 184 = .ok (.aload_n 0, 1) := by decide +kernel
theorem d_law_185 : decode code 185 = .ok (.iload 4, 2) := by decide +kernel
theorem d_law_187 : decode code 187 = .ok (.iconst 3, 1) := by decide +kernel
theorem d_law_188 : decode code 188 = .ok (.iadd, 1) := by decide +kernel
theorem d_law_189 : decode code 189 = .ok (.iaload, 1) := by decide +kernel
theorem d_law_190 : decode code 190 = .ok (.aload_n 0, 1) := by decide +kernel
theorem d_law_191 : decode code 191 = .ok (.iload 4, 2) := by decide +kernel
theorem d_law_193 : decode code 193 = .ok (.iconst 4, 1) := by decide +kernel
theorem d_law_194 : decode code 194 = .ok (.iadd, 1) := by decide +kernel
theorem d_law_195 : decode code 195 = .ok (.iaload, 1) := by decide +kernel
theorem d_law_196 : decode code 196 = .ok (.invokevirtual 99, 3) := by decide +kernel
theorem d_law_199 : decode code 199 = .ok (.istore 6, 2) := by decide +kernel
theorem d_law_201 : decode code 201 = .ok (.aload_n 2, 1) := by decide +kernel
theorem d_law_202 : decode code 202 = .ok (.invokevirtual 100, 3) := by decide +kernel
theorem d_law_205 : decode code 205 = .ok (.iload 5, 2) := by decide +kernel
theorem d_law_207 : decode code 207 = .ok (.if_icmp .eq 5, 3) := by decide +kernel
theorem d_law_210 : decode code 210 = .ok (.iconst 0, 1) := by decide +kernel
theorem d_law_211 : decode code 211 = .ok (.ireturn, 1) := by decide +kernel
theorem d_law_212 : decode code 212 = .ok (.iload 5, 2) := by decide +kernel
theorem d_law_214 : decode code 214 = .ok (.ifCond .ne 15, 3) := by decide +kernel
theorem d_law_217 : decode code 217 = .ok (.aload_n 3, 1) := by decide +kernel
theorem d_law_218 : decode code 218 = .ok (.iconst 0, 1) := by decide +kernel
theorem d_law_219 : decode code 219 = .ok (.laload, 1) := by decide +kernel
theorem d_law_220 : decode code 220 = .ok (.iload 6, 2) := by decide +kernel
theorem d_law_222 : decode code 222 = .ok (.i2l, 1) := by decide +kernel
theorem d_law_223 : decode code 223 = .ok (.lcmp, 1) := by decide +kernel
theorem d_law_224 : decode code 224 = .ok (.ifCond .eq 5, 3) := by decide +kernel
theorem d_law_227 : decode code 227 = .ok (.iconst 0, 1) := by decide +kernel
theorem d_law_228 : decode code 228 = .ok (.ireturn, 1) := by decide +kernel
theorem d_law_229 : decode code 229 = .ok (.goto 1400, 3) := by decide +kernel
theorem d_law_232 : decode code 232 = .ok (.aload_n 1, 1) := by decide +kernel
theorem d_law_233 : decode code 233 = .ok (.aload_n 0, 1) := by decide +kernel
theorem d_law_234 : decode code 234 = .ok (.iload 4, 2) := by decide +kernel
theorem d_law_236 : decode code 236 = .ok (.iconst 1, 1) := by decide +kernel
theorem d_law_237 : decode code 237 = .ok (.iadd, 1) := by decide +kernel
theorem d_law_238 : decode code 238 = .ok (.iaload, 1) := by decide +kernel
theorem d_law_239 : decode code 239 = .ok (.aload_n 0, 1) := by decide +kernel
theorem d_law_240 : decode code 240 = .ok (.iload 4, 2) := by decide +kernel
theorem d_law_242 : decode code 242 = .ok (.iconst 2, 1) := by decide +kernel
theorem d_law_243 : decode code 243 = .ok (.iadd, 1) := by decide +kernel
theorem d_law_244 : decode code 244 = .ok (.iaload, 1) := by decide +kernel
theorem d_law_245 : decode code 245 = .ok (.aload_n 0, 1) := by decide +kernel
theorem d_law_246 : decode code 246 = .ok (.iload 4, 2) := by decide +kernel
theorem d_law_248 : decode code 248 = .ok (.iconst 3, 1) := by decide +kernel
theorem d_law_249 : decode code 249 = .ok (.iadd, 1) := by decide +kernel
theorem d_law_250 : decode code 250 = .ok (.iaload, 1) := by decide +kernel
theorem d_law_251 : decode code 251 = .ok (.ifCond .eq 7, 3) := by decide +kernel
theorem d_law_254 : decode code 254 = .ok (.iconst 1, 1) := by decide +kernel
theorem d_law_255 : decode code 255 = .ok (.goto 4, 3) := by decide +kernel
theorem d_law_258 : decode code 258 = .ok (.iconst 0, 1) := by decide +kernel
theorem d_law_259 : decode code 259 = .ok (.aload_n 3, 1) := by decide +kernel
theorem d_law_260 : decode code 260 = .ok (.invokestatic 103, 3) := by decide +kernel
theorem d_law_263 : decode code 263 = .ok (.istore 5, 2) := by decide +kernel
theorem d_law_265 : decode code 265 = .ok (.aload_n 2, 1) := by decide +kernel
theorem d_law_266 : decode code 266 = .ok (.aload_n 0, 1) := by decide +kernel
theorem d_law_267 : decode code 267 = .ok (.iload 4, 2) := by decide +kernel
theorem d_law_269 : decode code 269 = .ok (.iconst 1, 1) := by decide +kernel
theorem d_law_270 : decode code 270 = .ok (.iadd, 1) := by decide +kernel
theorem d_law_271 : decode code 271 = .ok (.iaload, 1) := by decide +kernel
theorem d_law_272 : decode code 272 = .ok (.aload_n 0, 1) := by decide +kernel
theorem d_law_273 : decode code 273 = .ok (.iload 4, 2) := by decide +kernel
theorem d_law_275 : decode code 275 = .ok (.iconst 2, 1) := by decide +kernel
theorem d_law_276 : decode code 276 = .ok (.iadd, 1) := by decide +kernel
theorem d_law_277 : decode code 277 = .ok (.iaload, 1) := by decide +kernel
theorem d_law_278 : decode code 278 = .ok (.aload_n 0, 1) := by decide +kernel
theorem d_law_279 : decode code 279 = .ok (.iload 4, 2) := by decide +kernel
theorem d_law_281 : decode code 281 = .ok (.iconst 3, 1) := by decide +kernel
theorem d_law_282 : decode code 282 = .ok (.iadd, 1) := by decide +kernel
theorem d_law_283 : decode code 283 = .ok (.iaload, 1) := by decide +kernel
theorem d_law_284 : decode code 284 = .ok (.ifCond .eq 7, 3) := by decide +kernel
theorem d_law_287 : decode code 287 = .ok (.iconst 1, 1) := by decide +kernel
theorem d_law_288 : decode code 288 = .ok (.goto 4, 3) := by decide +kernel
theorem d_law_291 : decode code 291 = .ok (.iconst 0, 1) := by decide +kernel
theorem d_law_292 : decode code 292 = .ok (.invokevirtual 106, 3) := by decide +kernel
theorem d_law_295 : decode code 295 = .ok (.istore 6, 2) := by decide +kernel
theorem d_law_297 : decode code 297 = .ok (.aload_n 2, 1) := by decide +kernel
theorem d_law_298 : decode code 298 = .ok (.invokevirtual 100, 3) := by decide +kernel
theorem d_law_301 : decode code 301 = .ok (.iload 5, 2) := by decide +kernel
theorem d_law_303 : decode code 303 = .ok (.if_icmp .eq 5, 3) := by decide +kernel
theorem d_law_306 : decode code 306 = .ok (.iconst 0, 1) := by decide +kernel
theorem d_law_307 : decode code 307 = .ok (.ireturn, 1) := by decide +kernel
theorem d_law_308 : decode code 308 = .ok (.iload 5, 2) := by decide +kernel
theorem d_law_310 : decode code 310 = .ok (.ifCond .ne 22, 3) := by decide +kernel
theorem d_law_313 : decode code 313 = .ok (.aload_n 3, 1) := by decide +kernel
theorem d_law_314 : decode code 314 = .ok (.iconst 0, 1) := by decide +kernel
theorem d_law_315 : decode code 315 = .ok (.laload, 1) := by decide +kernel
theorem d_law_316 : decode code 316 = .ok (.iload 6, 2) := by decide +kernel
theorem d_law_318 : decode code 318 = .ok (.ifCond .eq 7, 3) := by decide +kernel
theorem d_law_321 : decode code 321 = .ok (.lconst 1, 1) := by decide +kernel
theorem d_law_322 : decode code 322 = .ok (.goto 4, 3) := by decide +kernel
theorem d_law_325 : decode code 325 = .ok (.lconst 0, 1) := by decide +kernel
theorem d_law_326 : decode code 326 = .ok (.lcmp, 1) := by decide +kernel
theorem d_law_327 : decode code 327 = .ok (.ifCond .eq 5, 3) := by decide +kernel
theorem d_law_330 : decode code 330 = .ok (.iconst 0, 1) := by decide +kernel
theorem d_law_331 : decode code 331 = .ok (.ireturn, 1) := by decide +kernel
theorem d_law_332 : decode code 332 = .ok (.goto 1297, 3) := by decide +kernel
theorem d_law_335 : decode code 335 = .ok (.aload_n 1, 1) := by decide +kernel
theorem d_law_336 : decode code 336 = .ok (.aload_n 0, 1) := by decide +kernel
theorem d_law_337 : decode code 337 = .ok (.iload 4, 2) := by decide +kernel
theorem d_law_339 : decode code 339 = .ok (.iconst 1, 1) := by decide +kernel
theorem d_law_340 : decode code 340 = .ok (.iadd, 1) := by decide +kernel
theorem d_law_341 : decode code 341 = .ok (.iaload, 1) := by decide +kernel
theorem d_law_342 : decode code 342 = .ok (.aload_n 0, 1) := by decide +kernel
theorem d_law_343 : decode code 343 = .ok (.iload 4, 2) := by decide +kernel
theorem d_law_345 : decode code 345 = .ok (.iconst 2, 1) := by decide +kernel
theorem d_law_346 : decode code 346 = .ok (.iadd, 1) := by decide +kernel
theorem d_law_347 : decode code 347 = .ok (.iaload, 1) := by decide +kernel
theorem d_law_348 : decode code 348 = .ok (.aload_n 3, 1) := by decide +kernel
theorem d_law_349 : decode code 349 = .ok (.invokestatic 107, 3) := by decide +kernel
theorem d_law_352 : decode code 352 = .ok (.istore 5, 2) := by decide +kernel
theorem d_law_354 : decode code 354 = .ok (.aload_n 2, 1) := by decide +kernel
theorem d_law_355 : decode code 355 = .ok (.aload_n 0, 1) := by decide +kernel
theorem d_law_356 : decode code 356 = .ok (.iload 4, 2) := by decide +kernel
theorem d_law_358 : decode code 358 = .ok (.iconst 1, 1) := by decide +kernel
theorem d_law_359 : decode code 359 = .ok (.iadd, 1) := by decide +kernel
theorem d_law_360 : decode code 360 = .ok (.iaload, 1) := by decide +kernel
theorem d_law_361 : decode code 361 = .ok (.aload_n 0, 1) := by decide +kernel
theorem d_law_362 : decode code 362 = .ok (.iload 4, 2) := by decide +kernel
theorem d_law_364 : decode code 364 = .ok (.iconst 2, 1) := by decide +kernel
theorem d_law_365 : decode code 365 = .ok (.iadd, 1) := by decide +kernel
theorem d_law_366 : decode code 366 = .ok (.iaload, 1) := by decide +kernel
theorem d_law_367 : decode code 367 = .ok (.invokevirtual 110, 3) := by decide +kernel
theorem d_law_370 : decode code 370 = .ok (.istore 6, 2) := by decide +kernel
theorem d_law_372 : decode code 372 = .ok (.aload_n 2, 1) := by decide +kernel
theorem d_law_373 : decode code 373 = .ok (.invokevirtual 100, 3) := by decide +kernel
theorem d_law_376 : decode code 376 = .ok (.iload 5, 2) := by decide +kernel
theorem d_law_378 : decode code 378 = .ok (.if_icmp .eq 5, 3) := by decide +kernel
theorem d_law_381 : decode code 381 = .ok (.iconst 0, 1) := by decide +kernel
theorem d_law_382 : decode code 382 = .ok (.ireturn, 1) := by decide +kernel
theorem d_law_383 : decode code 383 = .ok (.iload 5, 2) := by decide +kernel
theorem d_law_385 : decode code 385 = .ok (.ifCond .ne 15, 3) := by decide +kernel
theorem d_law_388 : decode code 388 = .ok (.aload_n 3, 1) := by decide +kernel
theorem d_law_389 : decode code 389 = .ok (.iconst 0, 1) := by decide +kernel
theorem d_law_390 : decode code 390 = .ok (.laload, 1) := by decide +kernel
theorem d_law_391 : decode code 391 = .ok (.iload 6, 2) := by decide +kernel
theorem d_law_393 : decode code 393 = .ok (.i2l, 1) := by decide +kernel
theorem d_law_394 : decode code 394 = .ok (.lcmp, 1) := by decide +kernel
theorem d_law_395 : decode code 395 = .ok (.ifCond .eq 5, 3) := by decide +kernel
theorem d_law_398 : decode code 398 = .ok (.iconst 0, 1) := by decide +kernel
theorem d_law_399 : decode code 399 = .ok (.ireturn, 1) := by decide +kernel
theorem d_law_400 : decode code 400 = .ok (.goto 1229, 3) := by decide +kernel
theorem d_law_403 : decode code 403 = .ok (.aload_n 1, 1) := by decide +kernel
theorem d_law_404 : decode code 404 = .ok (.aload_n 0, 1) := by decide +kernel
theorem d_law_405 : decode code 405 = .ok (.iload 4, 2) := by decide +kernel
theorem d_law_407 : decode code 407 = .ok (.iconst 1, 1) := by decide +kernel
theorem d_law_408 : decode code 408 = .ok (.iadd, 1) := by decide +kernel
theorem d_law_409 : decode code 409 = .ok (.iaload, 1) := by decide +kernel
theorem d_law_410 : decode code 410 = .ok (.aload_n 0, 1) := by decide +kernel
theorem d_law_411 : decode code 411 = .ok (.iload 4, 2) := by decide +kernel
theorem d_law_413 : decode code 413 = .ok (.iconst 2, 1) := by decide +kernel
theorem d_law_414 : decode code 414 = .ok (.iadd, 1) := by decide +kernel
theorem d_law_415 : decode code 415 = .ok (.iaload, 1) := by decide +kernel
theorem d_law_416 : decode code 416 = .ok (.aload_n 0, 1) := by decide +kernel
theorem d_law_417 : decode code 417 = .ok (.iload 4, 2) := by decide +kernel
theorem d_law_419 : decode code 419 = .ok (.iconst 3, 1) := by decide +kernel
theorem d_law_420 : decode code 420 = .ok (.iadd, 1) := by decide +kernel
theorem d_law_421 : decode code 421 = .ok (.iaload, 1) := by decide +kernel
theorem d_law_422 : decode code 422 = .ok (.aload_n 0, 1) := by decide +kernel
theorem d_law_423 : decode code 423 = .ok (.iload 4, 2) := by decide +kernel
theorem d_law_425 : decode code 425 = .ok (.iconst 4, 1) := by decide +kernel
theorem d_law_426 : decode code 426 = .ok (.iadd, 1) := by decide +kernel
theorem d_law_427 : decode code 427 = .ok (.iaload, 1) := by decide +kernel
theorem d_law_428 : decode code 428 = .ok (.aload_n 3, 1) := by decide +kernel
theorem d_law_429 : decode code 429 = .ok (.invokestatic 111, 3) := by decide +kernel
theorem d_law_432 : decode code 432 = .ok (.istore 5, 2) := by decide +kernel
theorem d_law_434 : decode code 434 = .ok (.aload_n 2, 1) := by decide +kernel
theorem d_law_435 : decode code 435 = .ok (.aload_n 0, 1) := by decide +kernel
theorem d_law_436 : decode code 436 = .ok (.iload 4, 2) := by decide +kernel
theorem d_law_438 : decode code 438 = .ok (.iconst 1, 1) := by decide +kernel
theorem d_law_439 : decode code 439 = .ok (.iadd, 1) := by decide +kernel
theorem d_law_440 : decode code 440 = .ok (.iaload, 1) := by decide +kernel
theorem d_law_441 : decode code 441 = .ok (.aload_n 0, 1) := by decide +kernel
theorem d_law_442 : decode code 442 = .ok (.iload 4, 2) := by decide +kernel
theorem d_law_444 : decode code 444 = .ok (.iconst 2, 1) := by decide +kernel
theorem d_law_445 : decode code 445 = .ok (.iadd, 1) := by decide +kernel
theorem d_law_446 : decode code 446 = .ok (.iaload, 1) := by decide +kernel
theorem d_law_447 : decode code 447 = .ok (.aload_n 0, 1) := by decide +kernel
theorem d_law_448 : decode code 448 = .ok (.iload 4, 2) := by decide +kernel
theorem d_law_450 : decode code 450 = .ok (.iconst 3, 1) := by decide +kernel
theorem d_law_451 : decode code 451 = .ok (.iadd, 1) := by decide +kernel
theorem d_law_452 : decode code 452 = .ok (.iaload, 1) := by decide +kernel
theorem d_law_453 : decode code 453 = .ok (.aload_n 0, 1) := by decide +kernel
theorem d_law_454 : decode code 454 = .ok (.iload 4, 2) := by decide +kernel
theorem d_law_456 : decode code 456 = .ok (.iconst 4, 1) := by decide +kernel
theorem d_law_457 : decode code 457 = .ok (.iadd, 1) := by decide +kernel
theorem d_law_458 : decode code 458 = .ok (.iaload, 1) := by decide +kernel
theorem d_law_459 : decode code 459 = .ok (.invokevirtual 113, 3) := by decide +kernel
theorem d_law_462 : decode code 462 = .ok (.istore 6, 2) := by decide +kernel
theorem d_law_464 : decode code 464 = .ok (.aload_n 2, 1) := by decide +kernel
theorem d_law_465 : decode code 465 = .ok (.invokevirtual 100, 3) := by decide +kernel
theorem d_law_468 : decode code 468 = .ok (.iload 5, 2) := by decide +kernel
theorem d_law_470 : decode code 470 = .ok (.if_icmp .eq 5, 3) := by decide +kernel
theorem d_law_473 : decode code 473 = .ok (.iconst 0, 1) := by decide +kernel
theorem d_law_474 : decode code 474 = .ok (.ireturn, 1) := by decide +kernel
theorem d_law_475 : decode code 475 = .ok (.iload 5, 2) := by decide +kernel
theorem d_law_477 : decode code 477 = .ok (.ifCond .ne 15, 3) := by decide +kernel
theorem d_law_480 : decode code 480 = .ok (.aload_n 3, 1) := by decide +kernel
theorem d_law_481 : decode code 481 = .ok (.iconst 0, 1) := by decide +kernel
theorem d_law_482 : decode code 482 = .ok (.laload, 1) := by decide +kernel
theorem d_law_483 : decode code 483 = .ok (.iload 6, 2) := by decide +kernel
theorem d_law_485 : decode code 485 = .ok (.i2l, 1) := by decide +kernel
theorem d_law_486 : decode code 486 = .ok (.lcmp, 1) := by decide +kernel
theorem d_law_487 : decode code 487 = .ok (.ifCond .eq 5, 3) := by decide +kernel
theorem d_law_490 : decode code 490 = .ok (.iconst 0, 1) := by decide +kernel
theorem d_law_491 : decode code 491 = .ok (.ireturn, 1) := by decide +kernel
theorem d_law_492 : decode code 492 = .ok (.goto 1137, 3) := by decide +kernel
theorem d_law_495 : decode code 495 = .ok (.aload_n 1, 1) := by decide +kernel
theorem d_law_496 : decode code 496 = .ok (.aload_n 0, 1) := by decide +kernel
theorem d_law_497 : decode code 497 = .ok (.iload 4, 2) := by decide +kernel
theorem d_law_499 : decode code 499 = .ok (.iconst 1, 1) := by decide +kernel
theorem d_law_500 : decode code 500 = .ok (.iadd, 1) := by decide +kernel
theorem d_law_501 : decode code 501 = .ok (.iaload, 1) := by decide +kernel
theorem d_law_502 : decode code 502 = .ok (.aload_n 0, 1) := by decide +kernel
theorem d_law_503 : decode code 503 = .ok (.iload 4, 2) := by decide +kernel
theorem d_law_505 : decode code 505 = .ok (.iconst 2, 1) := by decide +kernel
theorem d_law_506 : decode code 506 = .ok (.iadd, 1) := by decide +kernel
theorem d_law_507 : decode code 507 = .ok (.iaload, 1) := by decide +kernel
theorem d_law_508 : decode code 508 = .ok (.aload_n 0, 1) := by decide +kernel
theorem d_law_509 : decode code 509 = .ok (.iload 4, 2) := by decide +kernel
theorem d_law_511 : decode code 511 = .ok (.iconst 3, 1) := by decide +kernel
theorem d_law_512 : decode code 512 = .ok (.iadd, 1) := by decide +kernel
theorem d_law_513 : decode code 513 = .ok (.iaload, 1) := by decide +kernel
theorem d_law_514 : decode code 514 = .ok (.aload_n 3, 1) := by decide +kernel
theorem d_law_515 : decode code 515 = .ok (.invokestatic 114, 3) := by decide +kernel
theorem d_law_518 : decode code 518 = .ok (.istore 5, 2) := by decide +kernel
theorem d_law_520 : decode code 520 = .ok (.aload_n 2, 1) := by decide +kernel
theorem d_law_521 : decode code 521 = .ok (.aload_n 0, 1) := by decide +kernel
theorem d_law_522 : decode code 522 = .ok (.iload 4, 2) := by decide +kernel
theorem d_law_524 : decode code 524 = .ok (.iconst 1, 1) := by decide +kernel
theorem d_law_525 : decode code 525 = .ok (.iadd, 1) := by decide +kernel
theorem d_law_526 : decode code 526 = .ok (.iaload, 1) := by decide +kernel
theorem d_law_527 : decode code 527 = .ok (.aload_n 0, 1) := by decide +kernel
theorem d_law_528 : decode code 528 = .ok (.iload 4, 2) := by decide +kernel
theorem d_law_530 : decode code 530 = .ok (.iconst 2, 1) := by decide +kernel
theorem d_law_531 : decode code 531 = .ok (.iadd, 1) := by decide +kernel
theorem d_law_532 : decode code 532 = .ok (.iaload, 1) := by decide +kernel
theorem d_law_533 : decode code 533 = .ok (.aload_n 0, 1) := by decide +kernel
theorem d_law_534 : decode code 534 = .ok (.iload 4, 2) := by decide +kernel
theorem d_law_536 : decode code 536 = .ok (.iconst 3, 1) := by decide +kernel
theorem d_law_537 : decode code 537 = .ok (.iadd, 1) := by decide +kernel
theorem d_law_538 : decode code 538 = .ok (.iaload, 1) := by decide +kernel
theorem d_law_539 : decode code 539 = .ok (.invokevirtual 117, 3) := by decide +kernel
theorem d_law_542 : decode code 542 = .ok (.istore 6, 2) := by decide +kernel
theorem d_law_544 : decode code 544 = .ok (.aload_n 2, 1) := by decide +kernel
theorem d_law_545 : decode code 545 = .ok (.invokevirtual 100, 3) := by decide +kernel
theorem d_law_548 : decode code 548 = .ok (.iload 5, 2) := by decide +kernel
theorem d_law_550 : decode code 550 = .ok (.if_icmp .eq 5, 3) := by decide +kernel
theorem d_law_553 : decode code 553 = .ok (.iconst 0, 1) := by decide +kernel
theorem d_law_554 : decode code 554 = .ok (.ireturn, 1) := by decide +kernel
theorem d_law_555 : decode code 555 = .ok (.iload 5, 2) := by decide +kernel
theorem d_law_557 : decode code 557 = .ok (.ifCond .ne 15, 3) := by decide +kernel
theorem d_law_560 : decode code 560 = .ok (.aload_n 3, 1) := by decide +kernel
theorem d_law_561 : decode code 561 = .ok (.iconst 0, 1) := by decide +kernel
theorem d_law_562 : decode code 562 = .ok (.laload, 1) := by decide +kernel
theorem d_law_563 : decode code 563 = .ok (.iload 6, 2) := by decide +kernel
theorem d_law_565 : decode code 565 = .ok (.i2l, 1) := by decide +kernel
theorem d_law_566 : decode code 566 = .ok (.lcmp, 1) := by decide +kernel
theorem d_law_567 : decode code 567 = .ok (.ifCond .eq 5, 3) := by decide +kernel
theorem d_law_570 : decode code 570 = .ok (.iconst 0, 1) := by decide +kernel
theorem d_law_571 : decode code 571 = .ok (.ireturn, 1) := by decide +kernel
theorem d_law_572 : decode code 572 = .ok (.goto 1057, 3) := by decide +kernel
theorem d_law_575 : decode code 575 = .ok (.aload_n 1, 1) := by decide +kernel
theorem d_law_576 : decode code 576 = .ok (.aload_n 0, 1) := by decide +kernel
theorem d_law_577 : decode code 577 = .ok (.iload 4, 2) := by decide +kernel
theorem d_law_579 : decode code 579 = .ok (.iconst 1, 1) := by decide +kernel
theorem d_law_580 : decode code 580 = .ok (.iadd, 1) := by decide +kernel
theorem d_law_581 : decode code 581 = .ok (.iaload, 1) := by decide +kernel
theorem d_law_582 : decode code 582 = .ok (.aload_n 0, 1) := by decide +kernel
theorem d_law_583 : decode code 583 = .ok (.iload 4, 2) := by decide +kernel
theorem d_law_585 : decode code 585 = .ok (.iconst 2, 1) := by decide +kernel
