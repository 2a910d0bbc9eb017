/-! the law: its rounds -/
theorem d_law_0 : decode code 0 = .ok (.new 8, 3) := by decide +kernel
theorem d_law_3 : decode code 3 = .ok (.dup, 1) := by decide +kernel
theorem d_law_4 : decode code 4 = .ok (.invokespecial 39, 3) := by decide +kernel
theorem d_law_7 : decode code 7 = .ok (.astore_n 1, 1) := by decide +kernel
theorem d_law_8 : decode code 8 = .ok (.new 40, 3) := by decide +kernel
theorem d_law_11 : decode code 11 = .ok (.dup, 1) := by decide +kernel
theorem d_law_12 : decode code 12 = .ok (.invokespecial 42, 3) := by decide +kernel
theorem d_law_15 : decode code 15 = .ok (.astore_n 2, 1) := by decide +kernel
theorem d_law_16 : decode code 16 = .ok (.iconst 1, 1) := by decide +kernel
theorem d_law_17 : decode code 17 = .ok (.newarray .long, 2) := by decide +kernel
theorem d_law_19 : decode code 19 = .ok (.astore_n 3, 1) := by decide +kernel
theorem d_law_20 : decode code 20 = .ok (.iconst 0, 1) := by decide +kernel
theorem d_law_21 : decode code 21 = .ok (.istore 4, 2) := by decide +kernel
theorem d_law_23 : decode code 23 = .ok (.iload 4, 2) := by decide +kernel
theorem d_law_25 : decode code 25 = .ok (.aload_n 0, 1) := by decide +kernel
theorem d_law_26 : decode code 26 = .ok (.arraylength, 1) := by decide +kernel
theorem d_law_27 : decode code 27 = .ok (.iconst 4, 1) := by decide +kernel
theorem d_law_28 : decode code 28 = .ok (.isub, 1) := by decide +kernel
theorem d_law_29 : decode code 29 = .ok (.if_icmp .gt 884, 3) := by decide +kernel
theorem d_law_32 : decode code 32 = .ok (.aload_n 0, 1) := by decide +kernel
theorem d_law_33 : decode code 33 = .ok (.iload 4, 2) := by decide +kernel
theorem d_law_35 : decode code 35 = .ok (.iaload, 1) := by decide +kernel
theorem d_law_36 : decode code 36 = .ok (.bipush 31, 2) := by decide +kernel
theorem d_law_38 : decode code 38 = .ok (.iand, 1) := by decide +kernel
theorem d_law_39 : decode code 39 = .ok (.tableswitch 868 0 17 #[85, 110, 154, 219, 256, 281, 330, 367, 380, 433, 489, 545, 570, 626, 651, 731, 787, 843], 85) := by decide +kernel
theorem d_law_124 : decode code 124 = .ok (.aload_n 1, 1) := by decide +kernel
theorem d_law_125 : decode code 125 = .ok (.aload_n 0, 1) := by decide +kernel
theorem d_law_126 : decode code 126 = .ok (.iload 4, 2) := by decide +kernel
theorem d_law_128 : decode code 128 = .ok (.iconst 1, 1) := by decide +kernel
theorem d_law_129 : decode code 129 = .ok (.iadd, 1) := by decide +kernel
theorem d_law_130 : decode code 130 = .ok (.iaload, 1) := by decide +kernel
theorem d_law_131 : decode code 131 = .ok (.invokevirtual 43, 3) := by decide +kernel
theorem d_law_134 : decode code 134 = .ok (.aload_n 2, 1) := by decide +kernel
theorem d_law_135 : decode code 135 = .ok (.aload_n 0, 1) := by decide +kernel
theorem d_law_136 : decode code 136 = .ok (.iload 4, 2) := by decide +kernel
theorem d_law_138 : decode code 138 = .ok (.iconst 1, 1) := by decide +kernel
theorem d_law_139 : decode code 139 = .ok (.iadd, 1) := by decide +kernel
theorem d_law_140 : decode code 140 = .ok (.iaload, 1) := by decide +kernel
theorem d_law_141 : decode code 141 = .ok (.invokevirtual 47, 3) := by decide +kernel
theorem d_law_144 : decode code 144 = .ok (.if_icmp .eq 763, 3) := by decide +kernel
theorem d_law_147 : decode code 147 = .ok (.iconst 0, 1) := by decide +kernel
theorem d_law_148 : decode code 148 = .ok (.ireturn, 1) := by decide +kernel
theorem d_law_149 : decode code 149 = .ok (.aload_n 1, 1) := by decide +kernel
theorem d_law_150 : decode code 150 = .ok (.aload_n 3, 1) := by decide +kernel
theorem d_law_151 : decode code 151 = .ok (.invokestatic 48, 3) := by decide +kernel
theorem d_law_154 : decode code 154 = .ok (.istore 5, 2) := by decide +kernel
theorem d_law_156 : decode code 156 = .ok (.aload_n 2, 1) := by decide +kernel
theorem d_law_157 : decode code 157 = .ok (.invokevirtual 53, 3) := by decide +kernel
theorem d_law_160 : decode code 160 = .ok (.istore 6, 2) := by decide +kernel
theorem d_law_162 : decode code 162 = .ok (.aload_n 2, 1) := by decide +kernel
theorem d_law_163 : decode code 163 = .ok (.invokevirtual 54, 3) := by decide +kernel
theorem d_law_166 : decode code 166 = .ok (.iload 5, 2) := by decide +kernel
theorem d_law_168 : decode code 168 = .ok (.if_icmp .eq 5, 3) := by decide +kernel
theorem d_law_171 : decode code 171 = .ok (.iconst 0, 1) := by decide +kernel
theorem d_law_172 : decode code 172 = .ok (.ireturn, 1) := by decide +kernel
theorem d_law_173 : decode code 173 = .ok (.iload 5, 2) := by decide +kernel
theorem d_law_175 : decode code 175 = .ok (.ifCond .ne 15, 3) := by decide +kernel
theorem d_law_178 : decode code 178 = .ok (.aload_n 3, 1) := by decide +kernel
theorem d_law_179 : decode code 179 = .ok (.iconst 0, 1) := by decide +kernel
theorem d_law_180 : decode code 180 = .ok (.laload, 1) := by decide +kernel
theorem d_law_181 : decode code 181 = .ok (.iload 6, 2) := by decide +kernel
theorem d_law_183 : decode code 183 = .ok (.i2l, 1) := by decide +kernel
theorem d_law_184 : decode code 184 = .ok (.lcmp, 1) := by decide +kernel
theorem d_law_185 : decode code 185 = .ok (.ifCond .eq 5, 3) := by decide +kernel
theorem d_law_188 : decode code 188 = .ok (.iconst 0, 1) := by decide +kernel
theorem d_law_189 : decode code 189 = .ok (.ireturn, 1) := by decide +kernel
theorem d_law_190 : decode code 190 = .ok (.goto 717, 3) := by decide +kernel
theorem d_law_193 : decode code 193 = .ok (.aload_n 1, 1) := by decide +kernel
theorem d_law_194 : decode code 194 = .ok (.aload_n 0, 1) := by decide +kernel
theorem d_law_195 : decode code 195 = .ok (.iload 4, 2) := by decide +kernel
theorem d_law_197 : decode code 197 = .ok (.iconst 1, 1) := by decide +kernel
theorem d_law_198 : decode code 198 = .ok (.iadd, 1) := by decide +kernel
theorem d_law_199 : decode code 199 = .ok (.iaload, 1) := by decide +kernel
theorem d_law_200 : decode code 200 = .ok (.aload_n 0, 1) := by decide +kernel
theorem d_law_201 : decode code 201 = .ok (.iload 4, 2) := by decide +kernel
theorem d_law_203 : decode code 203 = .ok (.iconst 2, 1) := by decide +kernel
theorem d_law_204 : decode code 204 = .ok (.iadd, 1) := by decide +kernel
theorem d_law_205 : decode code 205 = .ok (.iaload, 1) := by decide +kernel
theorem d_law_206 : decode code 206 = .ok (.aload_n 0, 1) := by decide +kernel
theorem d_law_207 : decode code 207 = .ok (.iload 4, 2) := by decide +kernel
theorem d_law_209 : decode code 209 = .ok (.iconst 3, 1) := by decide +kernel
theorem d_law_210 : decode code 210 = .ok (.iadd, 1) := by decide +kernel
theorem d_law_211 : decode code 211 = .ok (.iaload, 1) := by decide +kernel
theorem d_law_212 : decode code 212 = .ok (.ifCond .eq 7, 3) := by decide +kernel
theorem d_law_215 : decode code 215 = .ok (.iconst 1, 1) := by decide +kernel
theorem d_law_216 : decode code 216 = .ok (.goto 4, 3) := by decide +kernel
theorem d_law_219 : decode code 219 = .ok (.iconst 0, 1) := by decide +kernel
theorem d_law_220 : decode code 220 = .ok (.invokevirtual 57, 3) := by decide +kernel
theorem d_law_223 : decode code 223 = .ok (.aload_n 2, 1) := by decide +kernel
theorem d_law_224 : decode code 224 = .ok (.aload_n 0, 1) := by decide +kernel
theorem d_law_225 : decode code 225 = .ok (.iload 4, 2) := by decide +kernel
theorem d_law_227 : decode code 227 = .ok (.iconst 1, 1) := by decide +kernel
theorem d_law_228 : decode code 228 = .ok (.iadd, 1) := by decide +kernel
theorem d_law_229 : decode code 229 = .ok (.iaload, 1) := by decide +kernel
theorem d_law_230 : decode code 230 = .ok (.aload_n 0, 1) := by decide +kernel
theorem d_law_231 : decode code 231 = .ok (.iload 4, 2) := by decide +kernel
theorem d_law_233 : decode code 233 = .ok (.iconst 2, 1) := by decide +kernel
theorem d_law_234 : decode code 234 = .ok (.iadd, 1) := by decide +kernel
theorem d_law_235 : decode code 235 = .ok (.iaload, 1) := by decide +kernel
theorem d_law_236 : decode code 236 = .ok (.aload_n 0, 1) := by decide +kernel
theorem d_law_237 : decode code 237 = .ok (.iload 4, 2) := by decide +kernel
theorem d_law_239 : decode code 239 = .ok (.iconst 3, 1) := by decide +kernel
theorem d_law_240 : decode code 240 = .ok (.iadd, 1) := by decide +kernel
theorem d_law_241 : decode code 241 = .ok (.iaload, 1) := by decide +kernel
theorem d_law_242 : decode code 242 = .ok (.ifCond .eq 7, 3) := by decide +kernel
theorem d_law_245 : decode code 245 = .ok (.iconst 1, 1) := by decide +kernel
theorem d_law_246 : decode code 246 = .ok (.goto 4, 3) := by decide +kernel
theorem d_law_249 : decode code 249 = .ok (.iconst 0, 1) := by decide +kernel
theorem d_law_250 : decode code 250 = .ok (.invokevirtual 61, 3) := by decide +kernel
theorem d_law_253 : decode code 253 = .ok (.if_icmp .eq 654, 3) := by decide +kernel
theorem d_law_256 : decode code 256 = .ok (.iconst 0, 1) := by decide +kernel
theorem d_law_257 : decode code 257 = .ok (.ireturn, 1) := by decide +kernel
theorem d_law_258 : decode code 258 = .ok (.aload_n 1, 1) := by decide +kernel
theorem d_law_259 : decode code 259 = .ok (.aload_n 0, 1) := by decide +kernel
theorem d_law_260 : decode code 260 = .ok (.iload 4, 2) := by decide +kernel
theorem d_law_262 : decode code 262 = .ok (.iconst 1, 1) := by decide +kernel
theorem d_law_263 : decode code 263 = .ok (.iadd, 1) := by decide +kernel
theorem d_law_264 : decode code 264 = .ok (.iaload, 1) := by decide +kernel
theorem d_law_265 : decode code 265 = .ok (.aload_n 0, 1) := by decide +kernel
theorem d_law_266 : decode code 266 = .ok (.iload 4, 2) := by decide +kernel
theorem d_law_268 : decode code 268 = .ok (.iconst 2, 1) := by decide +kernel
theorem d_law_269 : decode code 269 = .ok (.iadd, 1) := by decide +kernel
theorem d_law_270 : decode code 270 = .ok (.iaload, 1) := by decide +kernel
theorem d_law_271 : decode code 271 = .ok (.invokevirtual 62, 3) := by decide +kernel
theorem d_law_274 : decode code 274 = .ok (.aload_n 2, 1) := by decide +kernel
theorem d_law_275 : decode code 275 = .ok (.aload_n 0, 1) := by decide +kernel
theorem d_law_276 : decode code 276 = .ok (.iload 4, 2) := by decide +kernel
theorem d_law_278 : decode code 278 = .ok (.iconst 1, 1) := by decide +kernel
theorem d_law_279 : decode code 279 = .ok (.iadd, 1) := by decide +kernel
theorem d_law_280 : decode code 280 = .ok (.iaload, 1) := by decide +kernel
theorem d_law_281 : decode code 281 = .ok (.aload_n 0, 1) := by decide +kernel
theorem d_law_282 : decode code 282 = .ok (.iload 4, 2) := by decide +kernel
theorem d_law_284 : decode code 284 = .ok (.iconst 2, 1) := by decide +kernel
theorem d_law_285 : decode code 285 = .ok (.iadd, 1) := by decide +kernel
theorem d_law_286 : decode code 286 = .ok (.iaload, 1) := by decide +kernel
theorem d_law_287 : decode code 287 = .ok (.invokevirtual 66, 3) := by decide +kernel
theorem d_law_290 : decode code 290 = .ok (.if_icmp .eq 617, 3) := by decide +kernel
theorem d_law_293 : decode code 293 = .ok (.iconst 0, 1) := by decide +kernel
theorem d_law_294 : decode code 294 = .ok (.ireturn, 1) := by decide +kernel
theorem d_law_295 : decode code 295 = .ok (.aload_n 1, 1) := by decide +kernel
theorem d_law_296 : decode code 296 = .ok (.aload_n 0, 1) := by decide +kernel
theorem d_law_297 : decode code 297 = .ok (.iload 4, 2) := by decide +kernel
theorem d_law_299 : decode code 299 = .ok (.iconst 1, 1) := by decide +kernel
theorem d_law_300 : decode code 300 = .ok (.iadd, 1) := by decide +kernel
theorem d_law_301 : decode code 301 = .ok (.iaload, 1) := by decide +kernel
theorem d_law_302 : decode code 302 = .ok (.invokevirtual 67, 3) := by decide +kernel
theorem d_law_305 : decode code 305 = .ok (.aload_n 2, 1) := by decide +kernel
theorem d_law_306 : decode code 306 = .ok (.aload_n 0, 1) := by decide +kernel
theorem d_law_307 : decode code 307 = .ok (.iload 4, 2) := by decide +kernel
theorem d_law_309 : decode code 309 = .ok (.iconst 1, 1) := by decide +kernel
theorem d_law_310 : decode code 310 = .ok (.iadd, 1) := by decide +kernel
theorem d_law_311 : decode code 311 = .ok (.iaload, 1) := by decide +kernel
theorem d_law_312 : decode code 312 = .ok (.invokevirtual 70, 3) := by decide +kernel
theorem d_law_315 : decode code 315 = .ok (.if_icmp .eq 592, 3) := by decide +kernel
theorem d_law_318 : decode code 318 = .ok (.iconst 0, 1) := by decide +kernel
theorem d_law_319 : decode code 319 = .ok (.ireturn, 1) := by decide +kernel
theorem d_law_320 : decode code 320 = .ok (.aload_n 1, 1) := by decide +kernel
theorem d_law_321 : decode code 321 = .ok (.aload_n 0, 1) := by decide +kernel
theorem d_law_322 : decode code 322 = .ok (.iload 4, 2) := by decide +kernel
theorem d_law_324 : decode code 324 = .ok (.iconst 1, 1) := by decide +kernel
theorem d_law_325 : decode code 325 = .ok (.iadd, 1) := by decide +kernel
theorem d_law_326 : decode code 326 = .ok (.iaload, 1) := by decide +kernel
theorem d_law_327 : decode code 327 = .ok (.aload_n 0, 1) := by decide +kernel
theorem d_law_328 : decode code 328 = .ok (.iload 4, 2) := by decide +kernel
theorem d_law_330 : decode code 330 = .ok (.iconst 2, 1) := by decide +kernel
theorem d_law_331 : decode code 331 = .ok (.iadd, 1) := by decide +kernel
theorem d_law_332 : decode code 332 = .ok (.iaload, 1) := by decide +kernel
theorem d_law_333 : decode code 333 = .ok (.aload_n 0, 1) := by decide +kernel
theorem d_law_334 : decode code 334 = .ok (.iload 4, 2) := by decide +kernel
theorem d_law_336 : decode code 336 = .ok (.iconst 3, 1) := by decide +kernel
theorem d_law_337 : decode code 337 = .ok (.iadd, 1) := by decide +kernel
theorem d_law_338 : decode code 338 = .ok (.iaload, 1) := by decide +kernel
theorem d_law_339 : decode code 339 = .ok (.invokevirtual 71, 3) := by decide +kernel
theorem d_law_342 : decode code 342 = .ok (.aload_n 2, 1) := by decide +kernel
theorem d_law_343 : decode code 343 = .ok (.aload_n 0, 1) := by decide +kernel
theorem d_law_344 : decode code 344 = .ok (.iload 4, 2) := by decide +kernel
theorem d_law_346 : decode code 346 = .ok (.iconst 1, 1) := by decide +kernel
theorem d_law_347 : decode code 347 = .ok (.iadd, 1) := by decide +kernel
theorem d_law_348 : decode code 348 = .ok (.iaload, 1) := by decide +kernel
theorem d_law_349 : decode code 349 = .ok (.aload_n 0, 1) := by decide +kernel
theorem d_law_350 : decode code 350 = .ok (.iload 4, 2) := by decide +kernel
theorem d_law_352 : decode code 352 = .ok (.iconst 2, 1) := by decide +kernel
theorem d_law_353 : decode code 353 = .ok (.iadd, 1) := by decide +kernel
theorem d_law_354 : decode code 354 = .ok (.iaload, 1) := by decide +kernel
theorem d_law_355 : decode code 355 = .ok (.aload_n 0, 1) := by decide +kernel
theorem d_law_356 : decode code 356 = .ok (.iload 4, 2) := by decide +kernel
theorem d_law_358 : decode code 358 = .ok (.iconst 3, 1) := by decide +kernel
theorem d_law_359 : decode code 359 = .ok (.iadd, 1) := by decide +kernel
theorem d_law_360 : decode code 360 = .ok (.iaload, 1) := by decide +kernel
theorem d_law_361 : decode code 361 = .ok (.invokevirtual 75, 3) := by decide +kernel
theorem d_law_364 : decode code 364 = .ok (.if_icmp .eq 543, 3) := by decide +kernel
theorem d_law_367 : decode code 367 = .ok (.iconst 0, 1) := by decide +kernel
theorem d_law_368 : decode code 368 = .ok (.ireturn, 1) := by decide +kernel
theorem d_law_369 : decode code 369 = .ok (.aload_n 1, 1) := by decide +kernel
theorem d_law_370 : decode code 370 = .ok (.aload_n 0, 1) := by decide +kernel
theorem d_law_371 : decode code 371 = .ok (.iload 4, 2) := by decide +kernel
theorem d_law_373 : decode code 373 = .ok (.iconst 1, 1) := by decide +kernel
theorem d_law_374 : decode code 374 = .ok (.iadd, 1) := by decide +kernel
theorem d_law_375 : decode code 375 = .ok (.iaload, 1) := by decide +kernel
theorem d_law_376 : decode code 376 = .ok (.aload_n 0, 1) := by decide +kernel
theorem d_law_377 : decode code 377 = .ok (.iload 4, 2) := by decide +kernel
theorem d_law_379 : decode code 379 = .ok (.iconst 2, 1) := by decide +kernel
theorem d_law_380 : decode code 380 = .ok (.iadd, 1) := by decide +kernel
theorem d_law_381 : decode code 381 = .ok (.iaload, 1) := by decide +kernel
theorem d_law_382 : decode code 382 = .ok (.invokevirtual 76, 3) := by decide +kernel
theorem d_law_385 : decode code 385 = .ok (.aload_n 2, 1) := by decide +kernel
theorem d_law_386 : decode code 386 = .ok (.aload_n 0, 1) := by decide +kernel
theorem d_law_387 : decode code 387 = .ok (.iload 4, 2) := by decide +kernel
theorem d_law_389 : decode code 389 = .ok (.iconst 1, 1) := by decide +kernel
theorem d_law_390 : decode code 390 = .ok (.iadd, 1) := by decide +kernel
theorem d_law_391 : decode code 391 = .ok (.iaload, 1) := by decide +kernel
theorem d_law_392 : decode code 392 = .ok (.aload_n 0, 1) := by decide +kernel
theorem d_law_393 : decode code 393 = .ok (.iload 4, 2) := by decide +kernel
theorem d_law_395 : decode code 395 = .ok (.iconst 2, 1) := by decide +kernel
theorem d_law_396 : decode code 396 = .ok (.iadd, 1) := by decide +kernel
theorem d_law_397 : decode code 397 = .ok (.iaload, 1) := by decide +kernel
theorem d_law_398 : decode code 398 = .ok (.invokevirtual 79, 3) := by decide +kernel
theorem d_law_401 : decode code 401 = .ok (.if_icmp .eq 506, 3) := by decide +kernel
theorem d_law_404 : decode code 404 = .ok (.iconst 0, 1) := by decide +kernel
theorem d_law_405 : decode code 405 = .ok (.ireturn, 1) := by decide +kernel
theorem d_law_406 : decode code 406 = .ok (.aload_n 1, 1) := by decide +kernel
theorem d_law_407 : decode code 407 = .ok (.invokevirtual 80, 3) := by decide +kernel
theorem d_law_410 : decode code 410 = .ok (.aload_n 2, 1) := by decide +kernel
theorem d_law_411 : decode code 411 = .ok (.invokevirtual 83, 3) := by decide +kernel
theorem d_law_414 : decode code 414 = .ok (.if_icmp .eq 493, 3) := by decide +kernel
theorem d_law_417 : decode code 417 = .ok (.iconst 0, 1) := by decide +kernel
theorem d_law_418 : decode code 418 = .ok (.ireturn, 1) := by decide +kernel
theorem d_law_419 : decode code 419 = .ok (.aload_n 1, 1) := by decide +kernel
theorem d_law_420 : decode code 420 = .ok (.aload_n 0, 1) := by decide +kernel
theorem d_law_421 : decode code 421 = .ok (.iload 4, 2) := by decide +kernel
theorem d_law_423 : decode code 423 = .ok (.iconst 1, 1) := by decide +kernel
theorem d_law_424 : decode code 424 = .ok (.iadd, 1) := by decide +kernel
theorem d_law_425 : decode code 425 = .ok (.iaload, 1) := by decide +kernel
theorem d_law_426 : decode code 426 = .ok (.aload_n 0, 1) := by decide +kernel
theorem d_law_427 : decode code 427 = .ok (.iload 4, 2) := by decide +kernel
theorem d_law_429 : decode code 429 = .ok (.iconst 2, 1) := by decide +kernel
theorem d_law_430 : decode code 430 = .ok (.iadd, 1) := by decide +kernel
theorem d_law_431 : decode code 431 = .ok (.iaload, 1) := by decide +kernel
theorem d_law_432 : decode code 432 = .ok (.ifCond .eq 7, 3) := by decide +kernel
theorem d_law_435 : decode code 435 = .ok (.iconst 1, 1) := by decide +kernel
theorem d_law_436 : decode code 436 = .ok (.goto 4, 3) := by decide +kernel
theorem d_law_439 : decode code 439 = .ok (.iconst 0, 1) := by decide +kernel
theorem d_law_440 : decode code 440 = .ok (.invokevirtual 84, 3) := by decide +kernel
theorem d_law_443 : decode code 443 = .ok (.aload_n 2, 1) := by decide +kernel
theorem d_law_444 : decode code 444 = .ok (.aload_n 0, 1) := by decide +kernel
theorem d_law_445 : decode code 445 = .ok (.iload 4, 2) := by decide +kernel
theorem d_law_447 : decode code 447 = .ok (.iconst 1, 1) := by decide +kernel
theorem d_law_448 : decode code 448 = .ok (.iadd, 1) := by decide +kernel
theorem d_law_449 : decode code 449 = .ok (.iaload, 1) := by decide +kernel
theorem d_law_450 : decode code 450 = .ok (.aload_n 0, 1) := by decide +kernel
theorem d_law_451 : decode code 451 = .ok (.iload 4, 2) := by decide +kernel
theorem d_law_453 : decode code 453 = .ok (.iconst 2, 1) := by decide +kernel
theorem d_law_454 : decode code 454 = .ok (.iadd, 1) := by decide +kernel
theorem d_law_455 : decode code 455 = .ok (.iaload, 1) := by decide +kernel
theorem d_law_456 : decode code 456 = .ok (.ifCond .eq 7, 3) := by decide +kernel
theorem d_law_459 : decode code 459 = .ok (.iconst 1, 1) := by decide +kernel
theorem d_law_460 : decode code 460 = .ok (.goto 4, 3) := by decide +kernel
theorem d_law_463 : decode code 463 = .ok (.iconst 0, 1) := by decide +kernel
theorem d_law_464 : decode code 464 = .ok (.invokevirtual 88, 3) := by decide +kernel
theorem d_law_467 : decode code 467 = .ok (.if_icmp .eq 440, 3) := by decide +kernel
theorem d_law_470 : decode code 470 = .ok (.iconst 0, 1) := by decide +kernel
theorem d_law_471 : decode code 471 = .ok (.ireturn, 1) := by decide +kernel
theorem d_law_472 : decode code 472 = .ok (.aload_n 1, 1) := by decide +kernel
theorem d_law_473 : decode code 473 = .ok (.aload_n 0, 1) := by decide +kernel
theorem d_law_474 : decode code 474 = .ok (.iload 4, 2) := by decide +kernel
theorem d_law_476 : decode code 476 = .ok (.iconst 1, 1) := by decide +kernel
theorem d_law_477 : decode code 477 = .ok (.iadd, 1) := by decide +kernel
theorem d_law_478 : decode code 478 = .ok (.iaload, 1) := by decide +kernel
theorem d_law_479 : decode code 479 = .ok (.aload_n 3, 1) := by decide +kernel
theorem d_law_480 : decode code 480 = .ok (.invokestatic 89, 3) := by decide +kernel
theorem d_law_483 : decode code 483 = .ok (.istore 5, 2) := by decide +kernel
theorem d_law_485 : decode code 485 = .ok (.aload_n 2, 1) := by decide +kernel
theorem d_law_486 : decode code 486 = .ok (.aload_n 0, 1) := by decide +kernel
theorem d_law_487 : decode code 487 = .ok (.iload 4, 2) := by decide +kernel
theorem d_law_489 : decode code 489 = .ok (.iconst 1, 1) := by decide +kernel
theorem d_law_490 : decode code 490 = .ok (.iadd, 1) := by decide +kernel
theorem d_law_491 : decode code 491 = .ok (.iaload, 1) := by decide +kernel
theorem d_law_492 : decode code 492 = .ok (.invokevirtual 92, 3) := by decide +kernel
theorem d_law_495 : decode code 495 = .ok (.istore 6, 2) := by decide +kernel
theorem d_law_497 : decode code 497 = .ok (.aload_n 2, 1) := by decide +kernel
theorem d_law_498 : decode code 498 = .ok (.invokevirtual 54, 3) := by decide +kernel
theorem d_law_501 : decode code 501 = .ok (.iload 5, 2) := by decide +kernel
theorem d_law_503 : decode code 503 = .ok (.if_icmp .eq 5, 3) := by decide +kernel
theorem d_law_506 : decode code 506 = .ok (.iconst 0, 1) := by decide +kernel
theorem d_law_507 : decode code 507 = .ok (.ireturn, 1) := by decide +kernel
theorem d_law_508 : decode code 508 = .ok (.iload 5, 2) := by decide +kernel
theorem d_law_510 : decode code 510 = .ok (.ifCond .ne 15, 3) := by decide +kernel
theorem d_law_513 : decode code 513 = .ok (.aload_n 3, 1) := by decide +kernel
theorem d_law_514 : decode code 514 = .ok (.iconst 0, 1) := by decide +kernel
theorem d_law_515 : decode code 515 = .ok (.laload, 1) := by decide +kernel
theorem d_law_516 : decode code 516 = .ok (.iload 6, 2) := by decide +kernel
theorem d_law_518 : decode code 518 = .ok (.i2l, 1) := by decide +kernel
theorem d_law_519 : decode code 519 = .ok (.lcmp, 1) := by decide +kernel
theorem d_law_520 : decode code 520 = .ok (.ifCond .eq 5, 3) := by decide +kernel
theorem d_law_523 : decode code 523 = .ok (.iconst 0, 1) := by decide +kernel
theorem d_law_524 : decode code 524 = .ok (.ireturn, 1) := by decide +kernel
theorem d_law_525 : decode code 525 = .ok (.goto 382, 3) := by decide +kernel
theorem d_law_528 : decode code 528 = .ok (.aload_n 1, 1) := by decide +kernel
theorem d_law_529 : decode code 529 = .ok (.aload_n 0, 1) := by decide +kernel
theorem d_law_530 : decode code 530 = .ok (.iload 4, 2) := by decide +kernel
theorem d_law_532 : decode code 532 = .ok (.iconst 1, 1) := by decide +kernel
theorem d_law_533 : decode code 533 = .ok (.iadd, 1) := by decide +kernel
theorem d_law_534 : decode code 534 = .ok (.iaload, 1) := by decide +kernel
theorem d_law_535 : decode code 535 = .ok (.aload_n 3, 1) := by decide +kernel
theorem d_law_536 : decode code 536 = .ok (.invokestatic 93, 3) := by decide +kernel
theorem d_law_539 : decode code 539 = .ok (.istore 5, 2) := by decide +kernel
theorem d_law_541 : decode code 541 = .ok (.aload_n 2, 1) := by decide +kernel
theorem d_law_542 : decode code 542 = .ok (.aload_n 0, 1) := by decide +kernel
theorem d_law_543 : decode code 543 = .ok (.iload 4, 2) := by decide +kernel
theorem d_law_545 : decode code 545 = .ok (.iconst 1, 1) := by decide +kernel
theorem d_law_546 : decode code 546 = .ok (.iadd, 1) := by decide +kernel
theorem d_law_547 : decode code 547 = .ok (.iaload, 1) := by decide +kernel
theorem d_law_548 : decode code 548 = .ok (.invokevirtual 95, 3) := by decide +kernel
theorem d_law_551 : decode code 551 = .ok (.istore 6, 2) := by decide +kernel
theorem d_law_553 : decode code 553 = .ok (.aload_n 2, 1) := by decide +kernel
theorem d_law_554 : decode code 554 = .ok (.invokevirtual 54, 3) := by decide +kernel
theorem d_law_557 : decode code 557 = .ok (.iload 5, 2) := by decide +kernel
theorem d_law_559 : decode code 559 = .ok (.if_icmp .eq 5, 3) := by decide +kernel
theorem d_law_562 : decode code 562 = .ok (.iconst 0, 1) := by decide +kernel
theorem d_law_563 : decode code 563 = .ok (.ireturn, 1) := by decide +kernel
theorem d_law_564 : decode code 564 = .ok (.iload 5, 2) := by decide +kernel
theorem d_law_566 : decode code 566 = .ok (.ifCond .ne 15, 3) := by decide +kernel
theorem d_law_569 : decode code 569 = .ok (.aload_n 3, 1) := by decide +kernel
theorem d_law_570 : decode code 570 = .ok (.iconst 0, 1) := by decide +kernel
theorem d_law_571 : decode code 571 = .ok (.laload, 1) := by decide +kernel
theorem d_law_572 : decode code 572 = .ok (.iload 6, 2) := by decide +kernel
theorem d_law_574 : decode code 574 = .ok (.i2l, 1) := by decide +kernel
theorem d_law_575 : decode code 575 = .ok (.lcmp, 1) := by decide +kernel
theorem d_law_576 : decode code 576 = .ok (.ifCond .eq 5, 3) := by decide +kernel
theorem d_law_579 : decode code 579 = .ok (.iconst 0, 1) := by decide +kernel
theorem d_law_580 : decode code 580 = .ok (.ireturn, 1) := by decide +kernel
theorem d_law_581 : decode code 581 = .ok (.goto 326, 3) := by decide +kernel
theorem d_law_584 : decode code 584 = .ok (.aload_n 1, 1) := by decide +kernel
theorem d_law_585 : decode code 585 = .ok (.aload_n 0, 1) := by decide +kernel
theorem d_law_586 : decode code 586 = .ok (.iload 4, 2) := by decide +kernel
theorem d_law_588 : decode code 588 = .ok (.iconst 1, 1) := by decide +kernel
theorem d_law_589 : decode code 589 = .ok (.iadd, 1) := by decide +kernel
theorem d_law_590 : decode code 590 = .ok (.iaload, 1) := by decide +kernel
theorem d_law_591 : decode code 591 = .ok (.invokevirtual 96, 3) := by decide +kernel
theorem d_law_594 : decode code 594 = .ok (.aload_n 2, 1) := by decide +kernel
theorem d_law_595 : decode code 595 = .ok (.aload_n 0, 1) := by decide +kernel
theorem d_law_596 : decode code 596 = .ok (.iload 4, 2) := by decide +kernel
theorem d_law_598 : decode code 598 = .ok (.iconst 1, 1) := by decide +kernel
theorem d_law_599 : decode code 599 = .ok (.iadd, 1) := by decide +kernel
theorem d_law_600 : decode code 600 = .ok (.iaload, 1) := by decide +kernel
theorem d_law_601 : decode code 601 = .ok (.invokevirtual 99, 3) := by decide +kernel
theorem d_law_604 : decode code 604 = .ok (.if_icmp .eq 303, 3) := by decide +kernel
theorem d_law_607 : decode code 607 = .ok (.iconst 0, 1) := by decide +kernel
theorem d_law_608 : decode code 608 = .ok (.ireturn, 1) := by decide +kernel
theorem d_law_609 : decode code 609 = .ok (.aload_n 1, 1) := by decide +kernel
theorem d_law_610 : decode code 610 = .ok (.aload_n 0, 1) := by decide +kernel
theorem d_law_611 : decode code 611 = .ok (.iload 4, 2) := by decide +kernel
theorem d_law_613 : decode code 613 = .ok (.iconst 1, 1) := by decide +kernel
theorem d_law_614 : decode code 614 = .ok (.iadd, 1) := by decide +kernel
theorem d_law_615 : decode code 615 = .ok (.iaload, 1) := by decide +kernel
theorem d_law_616 : decode code 616 = .ok (.aload_n 3, 1) := by decide +kernel
theorem d_law_617 : decode code 617 = .ok (.invokestatic 100, 3) := by decide +kernel
theorem d_law_620 : decode code 620 = .ok (.istore 5, 2) := by decide +kernel
theorem d_law_622 : decode code 622 = .ok (.aload_n 2, 1) := by decide +kernel
theorem d_law_623 : decode code 623 = .ok (.aload_n 0, 1) := by decide +kernel
theorem d_law_624 : decode code 624 = .ok (.iload 4, 2) := by decide +kernel
theorem d_law_626 : decode code 626 = .ok (.iconst 1, 1) := by decide +kernel
theorem d_law_627 : decode code 627 = .ok (.iadd, 1) := by decide +kernel
theorem d_law_628 : decode code 628 = .ok (.iaload, 1) := by decide +kernel
theorem d_law_629 : decode code 629 = .ok (.invokevirtual 102, 3) := by decide +kernel
theorem d_law_632 : decode code 632 = .ok (.istore 6, 2) := by decide +kernel
theorem d_law_634 : decode code 634 = .ok (.aload_n 2, 1) := by decide +kernel
theorem d_law_635 : decode code 635 = .ok (.invokevirtual 54, 3) := by decide +kernel
theorem d_law_638 : decode code 638 = .ok (.iload 5, 2) := by decide +kernel
theorem d_law_640 : decode code 640 = .ok (.if_icmp .eq 5, 3) := by decide +kernel
theorem d_law_643 : decode code 643 = .ok (.iconst 0, 1) := by decide +kernel
theorem d_law_644 : decode code 644 = .ok (.ireturn, 1) := by decide +kernel
theorem d_law_645 : decode code 645 = .ok (.iload 5, 2) := by decide +kernel
theorem d_law_647 : decode code 647 = .ok (.ifCond .ne 15, 3) := by decide +kernel
theorem d_law_650 : decode code 650 = .ok (.aload_n 3, 1) := by decide +kernel
theorem d_law_651 : decode code 651 = .ok (.iconst 0, 1) := by decide +kernel
theorem d_law_652 : decode code 652 = .ok (.laload, 1) := by decide +kernel
theorem d_law_653 : decode code 653 = .ok (.iload 6, 2) := by decide +kernel
theorem d_law_655 : decode code 655 = .ok (.i2l, 1) := by decide +kernel
theorem d_law_656 : decode code 656 = .ok (.lcmp, 1) := by decide +kernel
theorem d_law_657 : decode code 657 = .ok (.ifCond .eq 5, 3) := by decide +kernel
theorem d_law_660 : decode code 660 = .ok (.iconst 0, 1) := by decide +kernel
theorem d_law_661 : decode code 661 = .ok (.ireturn, 1) := by decide +kernel
theorem d_law_662 : decode code 662 = .ok (.goto 245, 3) := by decide +kernel
theorem d_law_665 : decode code 665 = .ok (.aload_n 1, 1) := by decide +kernel
theorem d_law_666 : decode code 666 = .ok (.aload_n 0, 1) := by decide +kernel
theorem d_law_667 : decode code 667 = .ok (.iload 4, 2) := by decide +kernel
theorem d_law_669 : decode code 669 = .ok (.iconst 1, 1) := by decide +kernel
theorem d_law_670 : decode code 670 = .ok (.iadd, 1) := by decide +kernel
theorem d_law_671 : decode code 671 = .ok (.iaload, 1) := by decide +kernel
theorem d_law_672 : decode code 672 = .ok (.invokevirtual 103, 3) := by decide +kernel
theorem d_law_675 : decode code 675 = .ok (.aload_n 2, 1) := by decide +kernel
theorem d_law_676 : decode code 676 = .ok (.aload_n 0, 1) := by decide +kernel
theorem d_law_677 : decode code 677 = .ok (.iload 4, 2) := by decide +kernel
theorem d_law_679 : decode code 679 = .ok (.iconst 1, 1) := by decide +kernel
theorem d_law_680 : decode code 680 = .ok (.iadd, 1) := by decide +kernel
theorem d_law_681 : decode code 681 = .ok (.iaload, 1) := by decide +kernel
theorem d_law_682 : decode code 682 = .ok (.invokevirtual 106, 3) := by decide +kernel
theorem d_law_685 : decode code 685 = .ok (.if_icmp .eq 222, 3) := by decide +kernel
theorem d_law_688 : decode code 688 = .ok (.iconst 0, 1) := by decide +kernel
theorem d_law_689 : decode code 689 = .ok (.ireturn, 1) := by decide +kernel
theorem d_law_690 : decode code 690 = .ok (.aload_n 1, 1) := by decide +kernel
theorem d_law_691 : decode code 691 = .ok (.aload_n 0, 1) := by decide +kernel
theorem d_law_692 : decode code 692 = .ok (.iload 4, 2) := by decide +kernel
theorem d_law_694 : decode code 694 = .ok (.iconst 1, 1) := by decide +kernel
theorem d_law_695 : decode code 695 = .ok (.iadd, 1) := by decide +kernel
theorem d_law_696 : decode code 696 = .ok (.iaload, 1) := by decide +kernel
theorem d_law_697 : decode code 697 = .ok (.aload_n 0, 1) := by decide +kernel
theorem d_law_698 : decode code 698 = .ok (.iload 4, 2) := by decide +kernel
theorem d_law_700 : decode code 700 = .ok (.iconst 2, 1) := by decide +kernel
theorem d_law_701 : decode code 701 = .ok (.iadd, 1) := by decide +kernel
theorem d_law_702 : decode code 702 = .ok (.iaload, 1) := by decide +kernel
theorem d_law_703 : decode code 703 = .ok (.aload_n 0, 1) := by decide +kernel
theorem d_law_704 : decode code 704 = .ok (.iload 4, 2) := by decide +kernel
theorem d_law_706 : decode code 706 = .ok (.iconst 3, 1) := by decide +kernel
theorem d_law_707 : decode code 707 = .ok (.iadd, 1) := by decide +kernel
theorem d_law_708 : decode code 708 = .ok (.iaload, 1) := by decide +kernel
theorem d_law_709 : decode code 709 = .ok (.aload_n 3, 1) := by decide +kernel
theorem d_law_710 : decode code 710 = .ok (.invokestatic 107, 3) := by decide +kernel
theorem d_law_713 : decode code 713 = .ok (.istore 5, 2) := by decide +kernel
theorem d_law_715 : decode code 715 = .ok (.aload_n 2, 1) := by decide +kernel
theorem d_law_716 : decode code 716 = .ok (.aload_n 0, 1) := by decide +kernel
theorem d_law_717 : decode code 717 = .ok (.iload 4, 2) := by decide +kernel
theorem d_law_719 : decode code 719 = .ok (.iconst 1, 1) := by decide +kernel
theorem d_law_720 : decode code 720 = .ok (.iadd, 1) := by decide +kernel
theorem d_law_721 : decode code 721 = .ok (.iaload, 1) := by decide +kernel
theorem d_law_722 : decode code 722 = .ok (.aload_n 0, 1) := by decide +kernel
theorem d_law_723 : decode code 723 = .ok (.iload 4, 2) := by decide +kernel
theorem d_law_725 : decode code 725 = .ok (.iconst 2, 1) := by decide +kernel
theorem d_law_726 : decode code 726 = .ok (.iadd, 1) := by decide +kernel
theorem d_law_727 : decode code 727 = .ok (.iaload, 1) := by decide +kernel
theorem d_law_728 : decode code 728 = .ok (.aload_n 0, 1) := by decide +kernel
theorem d_law_729 : decode code 729 = .ok (.iload 4, 2) := by decide +kernel
theorem d_law_731 : decode code 731 = .ok (.iconst 3, 1) := by decide +kernel
theorem d_law_732 : decode code 732 = .ok (.iadd, 1) := by decide +kernel
theorem d_law_733 : decode code 733 = .ok (.iaload, 1) := by decide +kernel
theorem d_law_734 : decode code 734 = .ok (.invokevirtual 110, 3) := by decide +kernel
theorem d_law_737 : decode code 737 = .ok (.istore 6, 2) := by decide +kernel
theorem d_law_739 : decode code 739 = .ok (.aload_n 2, 1) := by decide +kernel
theorem d_law_740 : decode code 740 = .ok (.invokevirtual 54, 3) := by decide +kernel
theorem d_law_743 : decode code 743 = .ok (.iload 5, 2) := by decide +kernel
theorem d_law_745 : decode code 745 = .ok (.if_icmp .eq 5, 3) := by decide +kernel
theorem d_law_748 : decode code 748 = .ok (.iconst 0, 1) := by decide +kernel
theorem d_law_749 : decode code 749 = .ok (.ireturn, 1) := by decide +kernel
theorem d_law_750 : decode code 750 = .ok (.iload 5, 2) := by decide +kernel
theorem d_law_752 : decode code 752 = .ok (.ifCond .ne 15, 3) := by decide +kernel
theorem d_law_755 : decode code 755 = .ok (.aload_n 3, 1) := by decide +kernel
theorem d_law_756 : decode code 756 = .ok (.iconst 0, 1) := by decide +kernel
theorem d_law_757 : decode code 757 = .ok (.laload, 1) := by decide +kernel
theorem d_law_758 : decode code 758 = .ok (.iload 6, 2) := by decide +kernel
theorem d_law_760 : decode code 760 = .ok (.i2l, 1) := by decide +kernel
theorem d_law_761 : decode code 761 = .ok (.lcmp, 1) := by decide +kernel
theorem d_law_762 : decode code 762 = .ok (.ifCond .eq 5, 3) := by decide +kernel
theorem d_law_765 : decode code 765 = .ok (.iconst 0, 1) := by decide +kernel
theorem d_law_766 : decode code 766 = .ok (.ireturn, 1) := by decide +kernel
theorem d_law_767 : decode code 767 = .ok (.goto 140, 3) := by decide +kernel
theorem d_law_770 : decode code 770 = .ok (.aload_n 1, 1) := by decide +kernel
theorem d_law_771 : decode code 771 = .ok (.aload_n 0, 1) := by decide +kernel
theorem d_law_772 : decode code 772 = .ok (.iload 4, 2) := by decide +kernel
theorem d_law_774 : decode code 774 = .ok (.iconst 1, 1) := by decide +kernel
theorem d_law_775 : decode code 775 = .ok (.iadd, 1) := by decide +kernel
theorem d_law_776 : decode code 776 = .ok (.iaload, 1) := by decide +kernel
theorem d_law_777 : decode code 777 = .ok (.aload_n 3, 1) := by decide +kernel
theorem d_law_778 : decode code 778 = .ok (.invokestatic 111, 3) := by decide +kernel
theorem d_law_781 : decode code 781 = .ok (.istore 5, 2) := by decide +kernel
theorem d_law_783 : decode code 783 = .ok (.aload_n 2, 1) := by decide +kernel
theorem d_law_784 : decode code 784 = .ok (.aload_n 0, 1) := by decide +kernel
theorem d_law_785 : decode code 785 = .ok (.iload 4, 2) := by decide +kernel
theorem d_law_787 : decode code 787 = .ok (.iconst 1, 1) := by decide +kernel
theorem d_law_788 : decode code 788 = .ok (.iadd, 1) := by decide +kernel
theorem d_law_789 : decode code 789 = .ok (.iaload, 1) := by decide +kernel
theorem d_law_790 : decode code 790 = .ok (.invokevirtual 113, 3) := by decide +kernel
theorem d_law_793 : decode code 793 = .ok (.istore 6, 2) := by decide +kernel
theorem d_law_795 : decode code 795 = .ok (.aload_n 2, 1) := by decide +kernel
theorem d_law_796 : decode code 796 = .ok (.invokevirtual 54, 3) := by decide +kernel
theorem d_law_799 : decode code 799 = .ok (.iload 5, 2) := by decide +kernel
theorem d_law_801 : decode code 801 = .ok (.if_icmp .eq 5, 3) := by decide +kernel
theorem d_law_804 : decode code 804 = .ok (.iconst 0, 1) := by decide +kernel
theorem d_law_805 : decode code 805 = .ok (.ireturn, 1) := by decide +kernel
theorem d_law_806 : decode code 806 = .ok (.iload 5, 2) := by decide +kernel
theorem d_law_808 : decode code 808 = .ok (.ifCond .ne 15, 3) := by decide +kernel
theorem d_law_811 : decode code 811 = .ok (.aload_n 3, 1) := by decide +kernel
theorem d_law_812 : decode code 812 = .ok (.iconst 0, 1) := by decide +kernel
theorem d_law_813 : decode code 813 = .ok (.laload, 1) := by decide +kernel
theorem d_law_814 : decode code 814 = .ok (.iload 6, 2) := by decide +kernel
theorem d_law_816 : decode code 816 = .ok (.i2l, 1) := by decide +kernel
theorem d_law_817 : decode code 817 = .ok (.lcmp, 1) := by decide +kernel
theorem d_law_818 : decode code 818 = .ok (.ifCond .eq 5, 3) := by decide +kernel
theorem d_law_821 : decode code 821 = .ok (.iconst 0, 1) := by decide +kernel
theorem d_law_822 : decode code 822 = .ok (.ireturn, 1) := by decide +kernel
theorem d_law_823 : decode code 823 = .ok (.goto 84, 3) := by decide +kernel
theorem d_law_826 : decode code 826 = .ok (.aload_n 1, 1) := by decide +kernel
theorem d_law_827 : decode code 827 = .ok (.aload_n 0, 1) := by decide +kernel
theorem d_law_828 : decode code 828 = .ok (.iload 4, 2) := by decide +kernel
theorem d_law_830 : decode code 830 = .ok (.iconst 1, 1) := by decide +kernel
theorem d_law_831 : decode code 831 = .ok (.iadd, 1) := by decide +kernel
theorem d_law_832 : decode code 832 = .ok (.iaload, 1) := by decide +kernel
theorem d_law_833 : decode code 833 = .ok (.aload_n 3, 1) := by decide +kernel
theorem d_law_834 : decode code 834 = .ok (.invokestatic 114, 3) := by decide +kernel
theorem d_law_837 : decode code 837 = .ok (.istore 5, 2) := by decide +kernel
theorem d_law_839 : decode code 839 = .ok (.aload_n 2, 1) := by decide +kernel
theorem d_law_840 : decode code 840 = .ok (.aload_n 0, 1) := by decide +kernel
theorem d_law_841 : decode code 841 = .ok (.iload 4, 2) := by decide +kernel
theorem d_law_843 : decode code 843 = .ok (.iconst 1, 1) := by decide +kernel
theorem d_law_844 : decode code 844 = .ok (.iadd, 1) := by decide +kernel
theorem d_law_845 : decode code 845 = .ok (.iaload, 1) := by decide +kernel
theorem d_law_846 : decode code 846 = .ok (.invokevirtual 116, 3) := by decide +kernel
theorem d_law_849 : decode code 849 = .ok (.istore 6, 2) := by decide +kernel
theorem d_law_851 : decode code 851 = .ok (.aload_n 2, 1) := by decide +kernel
theorem d_law_852 : decode code 852 = .ok (.invokevirtual 54, 3) := by decide +kernel
theorem d_law_855 : decode code 855 = .ok (.iload 5, 2) := by decide +kernel
theorem d_law_857 : decode code 857 = .ok (.if_icmp .eq 5, 3) := by decide +kernel
theorem d_law_860 : decode code 860 = .ok (.iconst 0, 1) := by decide +kernel
theorem d_law_861 : decode code 861 = .ok (.ireturn, 1) := by decide +kernel
theorem d_law_862 : decode code 862 = .ok (.iload 5, 2) := by decide +kernel
theorem d_law_864 : decode code 864 = .ok (.ifCond .ne 15, 3) := by decide +kernel
theorem d_law_867 : decode code 867 = .ok (.aload_n 3, 1) := by decide +kernel
theorem d_law_868 : decode code 868 = .ok (.iconst 0, 1) := by decide +kernel
theorem d_law_869 : decode code 869 = .ok (.laload, 1) := by decide +kernel
theorem d_law_870 : decode code 870 = .ok (.iload 6, 2) := by decide +kernel
theorem d_law_872 : decode code 872 = .ok (.i2l, 1) := by decide +kernel
theorem d_law_873 : decode code 873 = .ok (.lcmp, 1) := by decide +kernel
theorem d_law_874 : decode code 874 = .ok (.ifCond .eq 5, 3) := by decide +kernel
theorem d_law_877 : decode code 877 = .ok (.iconst 0, 1) := by decide +kernel
theorem d_law_878 : decode code 878 = .ok (.ireturn, 1) := by decide +kernel
theorem d_law_879 : decode code 879 = .ok (.goto 28, 3) := by decide +kernel
theorem d_law_882 : decode code 882 = .ok (.aload_n 1, 1) := by decide +kernel
theorem d_law_883 : decode code 883 = .ok (.aload_n 0, 1) := by decide +kernel
theorem d_law_884 : decode code 884 = .ok (.iload 4, 2) := by decide +kernel
theorem d_law_886 : decode code 886 = .ok (.iconst 1, 1) := by decide +kernel
theorem d_law_887 : decode code 887 = .ok (.iadd, 1) := by decide +kernel
theorem d_law_888 : decode code 888 = .ok (.iaload, 1) := by decide +kernel
theorem d_law_889 : decode code 889 = .ok (.invokevirtual 117, 3) := by decide +kernel
theorem d_law_892 : decode code 892 = .ok (.aload_n 2, 1) := by decide +kernel
theorem d_law_893 : decode code 893 = .ok (.aload_n 0, 1) := by decide +kernel
theorem d_law_894 : decode code 894 = .ok (.iload 4, 2) := by decide +kernel
theorem d_law_896 : decode code 896 = .ok (.iconst 1, 1) := by decide +kernel
theorem d_law_897 : decode code 897 = .ok (.iadd, 1) := by decide +kernel
theorem d_law_898 : decode code 898 = .ok (.iaload, 1) := by decide +kernel
theorem d_law_899 : decode code 899 = .ok (.invokevirtual 120, 3) := by decide +kernel
theorem d_law_902 : decode code 902 = .ok (.if_icmp .eq 5, 3) := by decide +kernel
theorem d_law_905 : decode code 905 = .ok (.iconst 0, 1) := by decide +kernel
theorem d_law_906 : decode code 906 = .ok (.ireturn, 1) := by decide +kernel
theorem d_law_907 : decode code 907 = .ok (.iinc 4 4, 3) := by decide +kernel
theorem d_law_910 : decode code 910 = .ok (.goto (-887), 3) := by decide +kernel
theorem d_law_913 : decode code 913 = .ok (.iconst 1, 1) := by decide +kernel
theorem d_law_914 : decode code 914 = .ok (.ireturn, 1) := by decide +kernel
section
variable {wr : Nat → Prop} {p : Program} {l : Launch} {e : Env} {R : Room} {s : State} {m : MethodId} {args : Array Value} {below : List Frame} {meth : Method} {c : Code} {cells slots : Nat} {Q : State → Prop} {D : va_G} {cl : List vw_C} {tys : List (ClassId × FieldType)} {b0 : Nat} {G : State → Prop} {cc : ByteArray} {nL : Nat} {own : String} {Ts : List Cond} {ret : Option FieldType} {N : Nat} {f : Nat → va_E} {pc : Nat} {lv : List (Nat × Value)} {st : List Value}
theorem z_sld (X : zX p s m args meth c D cl tys b0 G cc nL own Ts ret) {b L : Nat} {xs : Nat → Int32} {i : Int32} (hX : va_X b L xs s s.heap) (hbl : b < s.heap.size) (hbA : ¬ b0 ≤ b) (hdg : decode cc pc = .ok (.iaload, 1)) (hin : vp_in i L) (kk : zW p l e R s m args below meth c D cl b0 nL cells slots Q N f (pc + 1) lv (.int (xs i.toNatClampNeg) :: st)) : zW p l e R s m args below meth c D cl b0 nL cells slots Q N f pc lv (.int i :: .ref b :: st) := fun H locs ls hH hS hL => va_sld X.1 X.2.1 hX hbl hbA hS hin hdg (kk H locs ls hH hS hL)
theorem z_slen (X : zX p s m args meth c D cl tys b0 G cc nL own Ts ret) {b L : Nat} {xs : Nat → Int32} (hX : va_X b L xs s s.heap) (hbl : b < s.heap.size) (hbA : ¬ b0 ≤ b) (hdg : decode cc pc = .ok (.arraylength, 1)) (kk : zW p l e R s m args below meth c D cl b0 nL cells slots Q N f (pc + 1) lv (.int (nI L) :: st)) : zW p l e R s m args below meth c D cl b0 nL cells slots Q N f pc lv (.ref b :: st) := fun H locs ls hH hS hL => va_slen X.1 X.2.1 hX hbl hbA hS hdg (kk H locs ls hH hS hL)
/-- a number, as a boolean -/
theorem z_bl (X : zX p s m args meth c D cl tys b0 G cc nL own Ts ret) {x : Int32} (d0 : decode cc pc = .ok (.ifCond .eq 7, 3)) (d1 : decode cc (pc + 3) = .ok (.iconst 1, 1)) (d2 : decode cc (pc + 4) = .ok (.goto 4, 3)) (d3 : decode cc (pc + 7) = .ok (.iconst 0, 1)) (kk : zW p l e R s m args below meth c D cl b0 nL cells slots Q N f (pc + 8) lv (.int (zb (!decide (x = 0))) :: st)) : zW p l e R s m args below meth c D cl b0 nL cells slots Q N f pc lv (.int x :: st) := by
  refine z_if_eq X (pc + 7) d0 rfl (fun hx => ?_) (fun hx => ?_)
  · refine z_iconst X d3 (v := 0) (by decide) ?_
    have e : zb (!decide (x = 0)) = 0 := by rw [decide_eq_true hx]; rfl
    rw [e] at kk
    exact kk
  · refine z_iconst X d1 (v := 1) (by decide) ?_
    refine z_goto X (pc + 8) d2 (by omega) ?_
    have e : zb (!decide (x = 0)) = 1 := by rw [decide_eq_false hx]; rfl
    rw [e] at kk
    exact kk
end
theorem lg_cmp0 {x y : Int64} (h : x = y) : lg_cmp x y = 0 := by
  subst h
  rw [lg_cmp, if_neg (Int64.lt_irrefl), if_pos rfl]
abbrev lwl (b a a' ob : Nat) (i : Int32) : List (Nat × Value) := [(0, .ref b), (1, .ref a), (2, .ref a'), (3, .ref ob), (4, .int i)]
section
variable {p : Program} {l : Launch} {e : Env} {s : State} {m : MethodId} {args : Array Value} {below : List Frame} {meth : Method} {c : Code} {cells slots : Nat} {Q : State → Prop} {D : va_G} {ck : Nat → ClassId} {ad : (Nat → Nat) × (Nat → Nat)} {b0 T N : Nat} {f : Nat → va_E} {A A' : Nat → Nat} {ob b L : Nat} {xs : Nat → Int32} {i : Int32}
set_option maxHeartbeats 2000000 in
theorem lw_c0 (X : zX p s m args meth c D zcl (zty ck) b0 (zG ad b0) code 7 "CheckRulesLaw" zTs ret) (htl : ∀ e, l.admits e → e.platform.stackTraces = false) (hX : va_X b L xs s s.heap) (hbl : b < s.heap.size) (hbA : ¬ b0 ≤ b) (hd : Ldj b0 T A A' ob) (h : Lst ck b0 T A A' ob N f) (h1 : vp_in (i + 1) L) (h2 : vp_in (i + 2) L) (h3 : vp_in (i + 3) L) (hr : cells + 5 ≤ 601024 ∧ slots + 132 ≤ 7293034) (kk : ∀ N' f', Lst ck b0 T A A' ob N' f' → zW p l e room_1 s m args below meth c D zcl b0 7 (cells + 5) (slots + 132) Q N' f' 907 (lwl b (A 0) (A' 38) ob i) []) : zW p l e room_1 s m args below meth c D zcl b0 7 cells slots Q N f 124 (lwl b (A 0) (A' 38) ob i) [] := by
  obtain ⟨hco, fs, hcf⟩ := (show (b0 ≤ A 0 ∧ A 0 < N) ∧ ∃ fs, f (A 0) = .inr (7, fs) from by obtain ⟨z, μ, jo, h0, -⟩ := h; exact h0.cobj)
  obtain ⟨ans, P, hc, hm⟩ := o_sign (l := l) (D := D) (ad := ad) (x := (xs (i + 1).toNatClampNeg)) hd h
  refine z_aload_n X d_law_124 rfl ?_
  refine z_aload_n X d_law_125 rfl ?_
  refine z_iload X d_law_126 rfl ?_
  refine z_iconst X d_law_128 (v := 1) (by decide) ?_
  refine z_iadd X d_law_129 ?_
  refine z_sld X hX hbl hbA d_law_130 h1 ?_
  refine z_callV (As := [.int (xs (i + 1).toNatClampNeg)]) X zG_ok hc d_law_131 ⟨(z_cb (n := 1) X.2.2.2.2.1 ml_Law_43 mc_Cls_sign ini_Cls (by decide +kernel) rfl rfl ⟨(Nat.le_of_ble_eq_true rfl), (Nat.le_of_ble_eq_true rfl)⟩), X.2.2.2.2.1 _ im_Cls_sign, X.2.2.2.2.1 _ sel_Cls_sign⟩ hco hcf cl_Cls rfl rfl (Nat.le_of_ble_eq_true rfl) (show cells + 0 ≤ 601024 ∧ slots + 0 ≤ 7293034 by omega) (fun r N1 f1 hp hN1 => ?_)
  obtain ⟨rfl, hp⟩ := hp
  obtain ⟨⟨hmo, fm, hmf⟩, hm⟩ := hm N1 f1 hp
  refine z_aload_n X d_law_134 rfl ?_
  refine z_aload_n X d_law_135 rfl ?_
  refine z_iload X d_law_136 rfl ?_
  refine z_iconst X d_law_138 (v := 1) (by decide) ?_
  refine z_iadd X d_law_139 ?_
  refine z_sld X hX hbl hbA d_law_140 h1 ?_
  refine z_callV (As := [.int (xs (i + 1).toNatClampNeg)]) X zG_ok hm d_law_141 ⟨(z_cb (n := 1) X.2.2.2.2.1 ml_Law_47 mc_Mod_sign ini_Mod (by decide +kernel) rfl rfl ⟨(Nat.le_of_ble_eq_true rfl), (Nat.le_of_ble_eq_true rfl)⟩), X.2.2.2.2.1 _ im_Mod_sign, X.2.2.2.2.1 _ sel_Mod_sign⟩ hmo hmf cl_Mod rfl rfl (Nat.le_of_ble_eq_true rfl) (show cells + 0 + 0 ≤ 601024 ∧ slots + 0 + 0 ≤ 7293034 by omega) (fun r N2 f2 hp hN2 => ?_)
  obtain ⟨rfl, hp⟩ := hp
  exact z_icmp_eq X 907 d_law_144 (by decide) (fun _ => zW.widen (by omega) (by omega) (kk N2 f2 hp)) (fun hx => absurd rfl hx)
set_option maxHeartbeats 2000000 in
theorem lw_c1 (X : zX p s m args meth c D zcl (zty ck) b0 (zG ad b0) code 7 "CheckRulesLaw" zTs ret) (htl : ∀ e, l.admits e → e.platform.stackTraces = false) (hX : va_X b L xs s s.heap) (hbl : b < s.heap.size) (hbA : ¬ b0 ≤ b) (hd : Ldj b0 T A A' ob) (h : Lst ck b0 T A A' ob N f) (h1 : vp_in (i + 1) L) (h2 : vp_in (i + 2) L) (h3 : vp_in (i + 3) L) (hr : cells + 5 ≤ 601024 ∧ slots + 132 ≤ 7293034) (kk : ∀ N' f', Lst ck b0 T A A' ob N' f' → zW p l e room_1 s m args below meth c D zcl b0 7 (cells + 5) (slots + 132) Q N' f' 907 (lwl b (A 0) (A' 38) ob i) []) : zW p l e room_1 s m args below meth c D zcl b0 7 cells slots Q N f 149 (lwl b (A 0) (A' 38) ob i) [] := by
  obtain ⟨kq, ans, P, P2, hk, hc, hm⟩ := o_rule (l := l) (D := D) (ad := ad)  htl hd h
  refine z_aload_n X d_law_149 rfl ?_
  refine z_aload_n X d_law_150 rfl ?_
  refine z_callSW (As := [.ref (A 0), .ref ob]) (n := 2) X zG_ok hc d_law_151 rfl rfl (Nat.le_of_ble_eq_true rfl) (Nat.le_of_ble_eq_true rfl) mcw_Law_rule ini_Law ⟨by decide, by decide⟩ (by decide +kernel) ml_Law_48 st_Law_rule rfl rfl (Nat.le_of_ble_eq_true rfl) (show cells + 5 ≤ 601024 ∧ slots + 132 ≤ 7293034 by omega) (fun r N1 f1 hp hN1 => ?_)
  obtain ⟨rfl, hp⟩ := hp
  obtain ⟨⟨hmo, fm, hmf⟩, hm, ht⟩ := hm N1 f1 hp
  refine z_istore X d_law_154 (by decide) rfl ?_
  refine z_aload_n X d_law_156 rfl ?_
  refine z_callV (As := []) X zG_ok hm d_law_157 ⟨(z_cb (n := 0) X.2.2.2.2.1 ml_Law_53 mc_Mod_rule ini_Mod (by decide +kernel) rfl rfl ⟨(Nat.le_of_ble_eq_true rfl), (Nat.le_of_ble_eq_true rfl)⟩), X.2.2.2.2.1 _ im_Mod_rule, X.2.2.2.2.1 _ sel_Mod_rule⟩ hmo hmf cl_Mod rfl rfl (Nat.le_of_ble_eq_true rfl) (show cells + 5 + 0 ≤ 601024 ∧ slots + 132 + 0 ≤ 7293034 by omega) (fun r N2 f2 hp2 hN2 => ?_)
  obtain ⟨rfl, hp2⟩ := hp2
  obtain ⟨⟨hto, ft, htf⟩, ht⟩ := ht N2 f2 hp2
  refine z_istore X d_law_160 (by decide) rfl ?_
  refine z_aload_n X d_law_162 rfl ?_
  refine z_callV (As := []) X zG_ok ht d_law_163 ⟨(z_cb (n := 0) X.2.2.2.2.1 ml_Law_54 mc_Mod_thrown ini_Mod (by decide +kernel) rfl rfl ⟨(Nat.le_of_ble_eq_true rfl), (Nat.le_of_ble_eq_true rfl)⟩), X.2.2.2.2.1 _ im_Mod_thrown, X.2.2.2.2.1 _ sel_Mod_thrown⟩ hto htf cl_Mod rfl rfl (Nat.le_of_ble_eq_true rfl) (show cells + 5 + 0 + 0 ≤ 601024 ∧ slots + 132 + 0 + 0 ≤ 7293034 by omega) (fun r N3 f3 hp3 hN3 => ?_)
  obtain ⟨rfl, hls, jo, hjo, hj0⟩ := hp3
  refine z_iload X d_law_166 rfl ?_
  refine z_icmp_eq X 173 d_law_168 (by decide) (fun _ => ?_) (fun hx => absurd rfl hx)
  refine z_iload X d_law_173 rfl ?_
  refine z_if_ne X 190 d_law_175 (by decide) (fun _ => z_goto X 907 d_law_190 (by decide) (zW.loc (lv' := lwl b (A 0) (A' 38) ob i) (fun q hq => List.mem_append.mpr (Or.inl (List.mem_append.mpr (Or.inl hq)))) (zW.widen (by omega) (by omega) (kk N3 f3 hls)))) (fun h0 => ?_)
  refine z_aload_n X d_law_178 rfl ?_
  refine z_iconst X d_law_179 (v := 0) (by decide) ?_
  refine z_lald X d_law_180 ⟨hd.1, (by have q1 := hd.2.1; obtain ⟨z, μ, j9, q2, -⟩ := hls; have := q2.1; omega)⟩ hjo (t0 := 2) rfl (vp_in_nI (n := 0) (N := 1) (by decide) (by decide)) ?_
  refine z_iload X d_law_181 rfl ?_
  refine z_i2l X d_law_183 (v := ans.toInt64) rfl ?_
  refine z_lcmp X d_law_184 ?_
  exact z_if_eq X 190 d_law_185 (by decide) (fun _ => z_goto X 907 d_law_190 (by decide) (zW.loc (lv' := lwl b (A 0) (A' 38) ob i) (fun q hq => List.mem_append.mpr (Or.inl (List.mem_append.mpr (Or.inl hq)))) (zW.widen (by omega) (by omega) (kk N3 f3 hls)))) (fun hx => absurd (lg_cmp0 (hj0 h0)) hx)
set_option maxHeartbeats 2000000 in
theorem lw_c2 (X : zX p s m args meth c D zcl (zty ck) b0 (zG ad b0) code 7 "CheckRulesLaw" zTs ret) (htl : ∀ e, l.admits e → e.platform.stackTraces = false) (hX : va_X b L xs s s.heap) (hbl : b < s.heap.size) (hbA : ¬ b0 ≤ b) (hd : Ldj b0 T A A' ob) (h : Lst ck b0 T A A' ob N f) (h1 : vp_in (i + 1) L) (h2 : vp_in (i + 2) L) (h3 : vp_in (i + 3) L) (hr : cells + 5 ≤ 601024 ∧ slots + 132 ≤ 7293034) (kk : ∀ N' f', Lst ck b0 T A A' ob N' f' → zW p l e room_1 s m args below meth c D zcl b0 7 (cells + 5) (slots + 132) Q N' f' 907 (lwl b (A 0) (A' 38) ob i) []) : zW p l e room_1 s m args below meth c D zcl b0 7 cells slots Q N f 193 (lwl b (A 0) (A' 38) ob i) [] := by
  obtain ⟨hco, fs, hcf⟩ := (show (b0 ≤ A 0 ∧ A 0 < N) ∧ ∃ fs, f (A 0) = .inr (7, fs) from by obtain ⟨z, μ, jo, h0, -⟩ := h; exact h0.cobj)
  obtain ⟨ans, P, hc, hm⟩ := o_order (l := l) (D := D) (ad := ad) (i := (xs (i + 1).toNatClampNeg)) (gp := (xs (i + 2).toNatClampNeg)) (hb := !decide (xs (i + 3).toNatClampNeg = 0)) hd h
  refine z_aload_n X d_law_193 rfl ?_
  refine z_aload_n X d_law_194 rfl ?_
  refine z_iload X d_law_195 rfl ?_
  refine z_iconst X d_law_197 (v := 1) (by decide) ?_
  refine z_iadd X d_law_198 ?_
  refine z_sld X hX hbl hbA d_law_199 h1 ?_
  refine z_aload_n X d_law_200 rfl ?_
  refine z_iload X d_law_201 rfl ?_
  refine z_iconst X d_law_203 (v := 2) (by decide) ?_
  refine z_iadd X d_law_204 ?_
  refine z_sld X hX hbl hbA d_law_205 h2 ?_
  refine z_aload_n X d_law_206 rfl ?_
  refine z_iload X d_law_207 rfl ?_
  refine z_iconst X d_law_209 (v := 3) (by decide) ?_
  refine z_iadd X d_law_210 ?_
  refine z_sld X hX hbl hbA d_law_211 h3 ?_
  refine z_bl X d_law_212 d_law_215 d_law_216 d_law_219 ?_
  refine z_callV (As := [.int (xs (i + 1).toNatClampNeg), .int (xs (i + 2).toNatClampNeg), .int (zb (!decide (xs (i + 3).toNatClampNeg = 0)))]) X zG_ok hc d_law_220 ⟨(z_cb (n := 3) X.2.2.2.2.1 ml_Law_57 mc_Cls_order ini_Cls (by decide +kernel) rfl rfl ⟨(Nat.le_of_ble_eq_true rfl), (Nat.le_of_ble_eq_true rfl)⟩), X.2.2.2.2.1 _ im_Cls_order, X.2.2.2.2.1 _ sel_Cls_order⟩ hco hcf cl_Cls rfl rfl (Nat.le_of_ble_eq_true rfl) (show cells + 0 ≤ 601024 ∧ slots + 0 ≤ 7293034 by omega) (fun r N1 f1 hp hN1 => ?_)
  obtain ⟨rfl, hp⟩ := hp
  obtain ⟨⟨hmo, fm, hmf⟩, hm⟩ := hm N1 f1 hp
  refine z_aload_n X d_law_223 rfl ?_
  refine z_aload_n X d_law_224 rfl ?_
  refine z_iload X d_law_225 rfl ?_
  refine z_iconst X d_law_227 (v := 1) (by decide) ?_
  refine z_iadd X d_law_228 ?_
  refine z_sld X hX hbl hbA d_law_229 h1 ?_
  refine z_aload_n X d_law_230 rfl ?_
  refine z_iload X d_law_231 rfl ?_
  refine z_iconst X d_law_233 (v := 2) (by decide) ?_
  refine z_iadd X d_law_234 ?_
  refine z_sld X hX hbl hbA d_law_235 h2 ?_
  refine z_aload_n X d_law_236 rfl ?_
  refine z_iload X d_law_237 rfl ?_
  refine z_iconst X d_law_239 (v := 3) (by decide) ?_
  refine z_iadd X d_law_240 ?_
  refine z_sld X hX hbl hbA d_law_241 h3 ?_
  refine z_bl X d_law_242 d_law_245 d_law_246 d_law_249 ?_
  refine z_callV (As := [.int (xs (i + 1).toNatClampNeg), .int (xs (i + 2).toNatClampNeg), .int (zb (!decide (xs (i + 3).toNatClampNeg = 0)))]) X zG_ok hm d_law_250 ⟨(z_cb (n := 3) X.2.2.2.2.1 ml_Law_61 mc_Mod_order ini_Mod (by decide +kernel) rfl rfl ⟨(Nat.le_of_ble_eq_true rfl), (Nat.le_of_ble_eq_true rfl)⟩), X.2.2.2.2.1 _ im_Mod_order, X.2.2.2.2.1 _ sel_Mod_order⟩ hmo hmf cl_Mod rfl rfl (Nat.le_of_ble_eq_true rfl) (show cells + 0 + 0 ≤ 601024 ∧ slots + 0 + 0 ≤ 7293034 by omega) (fun r N2 f2 hp hN2 => ?_)
  obtain ⟨rfl, hp⟩ := hp
  exact z_icmp_eq X 907 d_law_253 (by decide) (fun _ => zW.widen (by omega) (by omega) (kk N2 f2 hp)) (fun hx => absurd rfl hx)
set_option maxHeartbeats 2000000 in
theorem lw_c3 (X : zX p s m args meth c D zcl (zty ck) b0 (zG ad b0) code 7 "CheckRulesLaw" zTs ret) (htl : ∀ e, l.admits e → e.platform.stackTraces = false) (hX : va_X b L xs s s.heap) (hbl : b < s.heap.size) (hbA : ¬ b0 ≤ b) (hd : Ldj b0 T A A' ob) (h : Lst ck b0 T A A' ob N f) (h1 : vp_in (i + 1) L) (h2 : vp_in (i + 2) L) (h3 : vp_in (i + 3) L) (hr : cells + 5 ≤ 601024 ∧ slots + 132 ≤ 7293034) (kk : ∀ N' f', Lst ck b0 T A A' ob N' f' → zW p l e room_1 s m args below meth c D zcl b0 7 (cells + 5) (slots + 132) Q N' f' 907 (lwl b (A 0) (A' 38) ob i) []) : zW p l e room_1 s m args below meth c D zcl b0 7 cells slots Q N f 258 (lwl b (A 0) (A' 38) ob i) [] := by
  obtain ⟨hco, fs, hcf⟩ := (show (b0 ≤ A 0 ∧ A 0 < N) ∧ ∃ fs, f (A 0) = .inr (7, fs) from by obtain ⟨z, μ, jo, h0, -⟩ := h; exact h0.cobj)
  obtain ⟨ans, P, hc, hm⟩ := o_edition (l := l) (D := D) (ad := ad) (i := (xs (i + 1).toNatClampNeg)) (d := (xs (i + 2).toNatClampNeg)) hd h
  refine z_aload_n X d_law_258 rfl ?_
  refine z_aload_n X d_law_259 rfl ?_
  refine z_iload X d_law_260 rfl ?_
  refine z_iconst X d_law_262 (v := 1) (by decide) ?_
  refine z_iadd X d_law_263 ?_
  refine z_sld X hX hbl hbA d_law_264 h1 ?_
  refine z_aload_n X d_law_265 rfl ?_
  refine z_iload X d_law_266 rfl ?_
  refine z_iconst X d_law_268 (v := 2) (by decide) ?_
  refine z_iadd X d_law_269 ?_
  refine z_sld X hX hbl hbA d_law_270 h2 ?_
  refine z_callV (As := [.int (xs (i + 1).toNatClampNeg), .int (xs (i + 2).toNatClampNeg)]) X zG_ok hc d_law_271 ⟨(z_cb (n := 2) X.2.2.2.2.1 ml_Law_62 mc_Cls_edition ini_Cls (by decide +kernel) rfl rfl ⟨(Nat.le_of_ble_eq_true rfl), (Nat.le_of_ble_eq_true rfl)⟩), X.2.2.2.2.1 _ im_Cls_edition, X.2.2.2.2.1 _ sel_Cls_edition⟩ hco hcf cl_Cls rfl rfl (Nat.le_of_ble_eq_true rfl) (show cells + 0 ≤ 601024 ∧ slots + 0 ≤ 7293034 by omega) (fun r N1 f1 hp hN1 => ?_)
  obtain ⟨rfl, hp⟩ := hp
  obtain ⟨⟨hmo, fm, hmf⟩, hm⟩ := hm N1 f1 hp
  refine z_aload_n X d_law_274 rfl ?_
  refine z_aload_n X d_law_275 rfl ?_
  refine z_iload X d_law_276 rfl ?_
  refine z_iconst X d_law_278 (v := 1) (by decide) ?_
  refine z_iadd X d_law_279 ?_
  refine z_sld X hX hbl hbA d_law_280 h1 ?_
  refine z_aload_n X d_law_281 rfl ?_
  refine z_iload X d_law_282 rfl ?_
  refine z_iconst X d_law_284 (v := 2) (by decide) ?_
  refine z_iadd X d_law_285 ?_
  refine z_sld X hX hbl hbA d_law_286 h2 ?_
  refine z_callV (As := [.int (xs (i + 1).toNatClampNeg), .int (xs (i + 2).toNatClampNeg)]) X zG_ok hm d_law_287 ⟨(z_cb (n := 2) X.2.2.2.2.1 ml_Law_66 mc_Mod_edition ini_Mod (by decide +kernel) rfl rfl ⟨(Nat.le_of_ble_eq_true rfl), (Nat.le_of_ble_eq_true rfl)⟩), X.2.2.2.2.1 _ im_Mod_edition, X.2.2.2.2.1 _ sel_Mod_edition⟩ hmo hmf cl_Mod rfl rfl (Nat.le_of_ble_eq_true rfl) (show cells + 0 + 0 ≤ 601024 ∧ slots + 0 + 0 ≤ 7293034 by omega) (fun r N2 f2 hp hN2 => ?_)
  obtain ⟨rfl, hp⟩ := hp
  exact z_icmp_eq X 907 d_law_290 (by decide) (fun _ => zW.widen (by omega) (by omega) (kk N2 f2 hp)) (fun hx => absurd rfl hx)
set_option maxHeartbeats 2000000 in
theorem lw_c4 (X : zX p s m args meth c D zcl (zty ck) b0 (zG ad b0) code 7 "CheckRulesLaw" zTs ret) (htl : ∀ e, l.admits e → e.platform.stackTraces = false) (hX : va_X b L xs s s.heap) (hbl : b < s.heap.size) (hbA : ¬ b0 ≤ b) (hd : Ldj b0 T A A' ob) (h : Lst ck b0 T A A' ob N f) (h1 : vp_in (i + 1) L) (h2 : vp_in (i + 2) L) (h3 : vp_in (i + 3) L) (hr : cells + 5 ≤ 601024 ∧ slots + 132 ≤ 7293034) (kk : ∀ N' f', Lst ck b0 T A A' ob N' f' → zW p l e room_1 s m args below meth c D zcl b0 7 (cells + 5) (slots + 132) Q N' f' 907 (lwl b (A 0) (A' 38) ob i) []) : zW p l e room_1 s m args below meth c D zcl b0 7 cells slots Q N f 295 (lwl b (A 0) (A' 38) ob i) [] := by
  obtain ⟨hco, fs, hcf⟩ := (show (b0 ≤ A 0 ∧ A 0 < N) ∧ ∃ fs, f (A 0) = .inr (7, fs) from by obtain ⟨z, μ, jo, h0, -⟩ := h; exact h0.cobj)
  obtain ⟨ans, P, hc, hm⟩ := o_day (l := l) (D := D) (ad := ad) (d := (xs (i + 1).toNatClampNeg)) hd h
  refine z_aload_n X d_law_295 rfl ?_
  refine z_aload_n X d_law_296 rfl ?_
  refine z_iload X d_law_297 rfl ?_
  refine z_iconst X d_law_299 (v := 1) (by decide) ?_
  refine z_iadd X d_law_300 ?_
  refine z_sld X hX hbl hbA d_law_301 h1 ?_
  refine z_callV (As := [.int (xs (i + 1).toNatClampNeg)]) X zG_ok hc d_law_302 ⟨(z_cb (n := 1) X.2.2.2.2.1 ml_Law_67 mc_Cls_day ini_Cls (by decide +kernel) rfl rfl ⟨(Nat.le_of_ble_eq_true rfl), (Nat.le_of_ble_eq_true rfl)⟩), X.2.2.2.2.1 _ im_Cls_day, X.2.2.2.2.1 _ sel_Cls_day⟩ hco hcf cl_Cls rfl rfl (Nat.le_of_ble_eq_true rfl) (show cells + 0 ≤ 601024 ∧ slots + 0 ≤ 7293034 by omega) (fun r N1 f1 hp hN1 => ?_)
  obtain ⟨rfl, hp⟩ := hp
  obtain ⟨⟨hmo, fm, hmf⟩, hm⟩ := hm N1 f1 hp
  refine z_aload_n X d_law_305 rfl ?_
  refine z_aload_n X d_law_306 rfl ?_
  refine z_iload X d_law_307 rfl ?_
  refine z_iconst X d_law_309 (v := 1) (by decide) ?_
  refine z_iadd X d_law_310 ?_
  refine z_sld X hX hbl hbA d_law_311 h1 ?_
  refine z_callV (As := [.int (xs (i + 1).toNatClampNeg)]) X zG_ok hm d_law_312 ⟨(z_cb (n := 1) X.2.2.2.2.1 ml_Law_70 mc_Mod_day ini_Mod (by decide +kernel) rfl rfl ⟨(Nat.le_of_ble_eq_true rfl), (Nat.le_of_ble_eq_true rfl)⟩), X.2.2.2.2.1 _ im_Mod_day, X.2.2.2.2.1 _ sel_Mod_day⟩ hmo hmf cl_Mod rfl rfl (Nat.le_of_ble_eq_true rfl) (show cells + 0 + 0 ≤ 601024 ∧ slots + 0 + 0 ≤ 7293034 by omega) (fun r N2 f2 hp hN2 => ?_)
  obtain ⟨rfl, hp⟩ := hp
  exact z_icmp_eq X 907 d_law_315 (by decide) (fun _ => zW.widen (by omega) (by omega) (kk N2 f2 hp)) (fun hx => absurd rfl hx)
set_option maxHeartbeats 2000000 in
theorem lw_c5 (X : zX p s m args meth c D zcl (zty ck) b0 (zG ad b0) code 7 "CheckRulesLaw" zTs ret) (htl : ∀ e, l.admits e → e.platform.stackTraces = false) (hX : va_X b L xs s s.heap) (hbl : b < s.heap.size) (hbA : ¬ b0 ≤ b) (hd : Ldj b0 T A A' ob) (h : Lst ck b0 T A A' ob N f) (h1 : vp_in (i + 1) L) (h2 : vp_in (i + 2) L) (h3 : vp_in (i + 3) L) (hr : cells + 5 ≤ 601024 ∧ slots + 132 ≤ 7293034) (kk : ∀ N' f', Lst ck b0 T A A' ob N' f' → zW p l e room_1 s m args below meth c D zcl b0 7 (cells + 5) (slots + 132) Q N' f' 907 (lwl b (A 0) (A' 38) ob i) []) : zW p l e room_1 s m args below meth c D zcl b0 7 cells slots Q N f 320 (lwl b (A 0) (A' 38) ob i) [] := by
  obtain ⟨hco, fs, hcf⟩ := (show (b0 ≤ A 0 ∧ A 0 < N) ∧ ∃ fs, f (A 0) = .inr (7, fs) from by obtain ⟨z, μ, jo, h0, -⟩ := h; exact h0.cobj)
  obtain ⟨ans, P, hc, hm⟩ := o_field (l := l) (D := D) (ad := ad) (fd := (xs (i + 1).toNatClampNeg)) (ln := (xs (i + 2).toNatClampNeg)) (x := (xs (i + 3).toNatClampNeg)) hd h
  refine z_aload_n X d_law_320 rfl ?_
  refine z_aload_n X d_law_321 rfl ?_
  refine z_iload X d_law_322 rfl ?_
  refine z_iconst X d_law_324 (v := 1) (by decide) ?_
  refine z_iadd X d_law_325 ?_
  refine z_sld X hX hbl hbA d_law_326 h1 ?_
  refine z_aload_n X d_law_327 rfl ?_
  refine z_iload X d_law_328 rfl ?_
  refine z_iconst X d_law_330 (v := 2) (by decide) ?_
  refine z_iadd X d_law_331 ?_
  refine z_sld X hX hbl hbA d_law_332 h2 ?_
  refine z_aload_n X d_law_333 rfl ?_
  refine z_iload X d_law_334 rfl ?_
  refine z_iconst X d_law_336 (v := 3) (by decide) ?_
  refine z_iadd X d_law_337 ?_
  refine z_sld X hX hbl hbA d_law_338 h3 ?_
  refine z_callV (As := [.int (xs (i + 1).toNatClampNeg), .int (xs (i + 2).toNatClampNeg), .int (xs (i + 3).toNatClampNeg)]) X zG_ok hc d_law_339 ⟨(z_cb (n := 3) X.2.2.2.2.1 ml_Law_71 mc_Cls_field ini_Cls (by decide +kernel) rfl rfl ⟨(Nat.le_of_ble_eq_true rfl), (Nat.le_of_ble_eq_true rfl)⟩), X.2.2.2.2.1 _ im_Cls_field, X.2.2.2.2.1 _ sel_Cls_field⟩ hco hcf cl_Cls rfl rfl (Nat.le_of_ble_eq_true rfl) (show cells + 0 ≤ 601024 ∧ slots + 0 ≤ 7293034 by omega) (fun r N1 f1 hp hN1 => ?_)
  obtain ⟨rfl, hp⟩ := hp
  obtain ⟨⟨hmo, fm, hmf⟩, hm⟩ := hm N1 f1 hp
  refine z_aload_n X d_law_342 rfl ?_
  refine z_aload_n X d_law_343 rfl ?_
  refine z_iload X d_law_344 rfl ?_
  refine z_iconst X d_law_346 (v := 1) (by decide) ?_
  refine z_iadd X d_law_347 ?_
  refine z_sld X hX hbl hbA d_law_348 h1 ?_
  refine z_aload_n X d_law_349 rfl ?_
  refine z_iload X d_law_350 rfl ?_
  refine z_iconst X d_law_352 (v := 2) (by decide) ?_
  refine z_iadd X d_law_353 ?_
  refine z_sld X hX hbl hbA d_law_354 h2 ?_
  refine z_aload_n X d_law_355 rfl ?_
  refine z_iload X d_law_356 rfl ?_
  refine z_iconst X d_law_358 (v := 3) (by decide) ?_
  refine z_iadd X d_law_359 ?_
  refine z_sld X hX hbl hbA d_law_360 h3 ?_
  refine z_callV (As := [.int (xs (i + 1).toNatClampNeg), .int (xs (i + 2).toNatClampNeg), .int (xs (i + 3).toNatClampNeg)]) X zG_ok hm d_law_361 ⟨(z_cb (n := 3) X.2.2.2.2.1 ml_Law_75 mc_Mod_field2 ini_Mod (by decide +kernel) rfl rfl ⟨(Nat.le_of_ble_eq_true rfl), (Nat.le_of_ble_eq_true rfl)⟩), X.2.2.2.2.1 _ im_Mod_field2, X.2.2.2.2.1 _ sel_Mod_field2⟩ hmo hmf cl_Mod rfl rfl (Nat.le_of_ble_eq_true rfl) (show cells + 0 + 0 ≤ 601024 ∧ slots + 0 + 0 ≤ 7293034 by omega) (fun r N2 f2 hp hN2 => ?_)
  obtain ⟨rfl, hp⟩ := hp
  exact z_icmp_eq X 907 d_law_364 (by decide) (fun _ => zW.widen (by omega) (by omega) (kk N2 f2 hp)) (fun hx => absurd rfl hx)
set_option maxHeartbeats 2000000 in
theorem lw_c6 (X : zX p s m args meth c D zcl (zty ck) b0 (zG ad b0) code 7 "CheckRulesLaw" zTs ret) (htl : ∀ e, l.admits e → e.platform.stackTraces = false) (hX : va_X b L xs s s.heap) (hbl : b < s.heap.size) (hbA : ¬ b0 ≤ b) (hd : Ldj b0 T A A' ob) (h : Lst ck b0 T A A' ob N f) (h1 : vp_in (i + 1) L) (h2 : vp_in (i + 2) L) (h3 : vp_in (i + 3) L) (hr : cells + 5 ≤ 601024 ∧ slots + 132 ≤ 7293034) (kk : ∀ N' f', Lst ck b0 T A A' ob N' f' → zW p l e room_1 s m args below meth c D zcl b0 7 (cells + 5) (slots + 132) Q N' f' 907 (lwl b (A 0) (A' 38) ob i) []) : zW p l e room_1 s m args below meth c D zcl b0 7 cells slots Q N f 369 (lwl b (A 0) (A' 38) ob i) [] := by
  obtain ⟨hco, fs, hcf⟩ := (show (b0 ≤ A 0 ∧ A 0 < N) ∧ ∃ fs, f (A 0) = .inr (7, fs) from by obtain ⟨z, μ, jo, h0, -⟩ := h; exact h0.cobj)
  obtain ⟨ans, P, hc, hm⟩ := o_without (l := l) (D := D) (ad := ad) (fd := (xs (i + 1).toNatClampNeg)) (ln := (xs (i + 2).toNatClampNeg)) hd h
  refine z_aload_n X d_law_369 rfl ?_
  refine z_aload_n X d_law_370 rfl ?_
  refine z_iload X d_law_371 rfl ?_
  refine z_iconst X d_law_373 (v := 1) (by decide) ?_
  refine z_iadd X d_law_374 ?_
  refine z_sld X hX hbl hbA d_law_375 h1 ?_
  refine z_aload_n X d_law_376 rfl ?_
  refine z_iload X d_law_377 rfl ?_
  refine z_iconst X d_law_379 (v := 2) (by decide) ?_
  refine z_iadd X d_law_380 ?_
  refine z_sld X hX hbl hbA d_law_381 h2 ?_
  refine z_callV (As := [.int (xs (i + 1).toNatClampNeg), .int (xs (i + 2).toNatClampNeg)]) X zG_ok hc d_law_382 ⟨(z_cb (n := 2) X.2.2.2.2.1 ml_Law_76 mc_Cls_without ini_Cls (by decide +kernel) rfl rfl ⟨(Nat.le_of_ble_eq_true rfl), (Nat.le_of_ble_eq_true rfl)⟩), X.2.2.2.2.1 _ im_Cls_without, X.2.2.2.2.1 _ sel_Cls_without⟩ hco hcf cl_Cls rfl rfl (Nat.le_of_ble_eq_true rfl) (show cells + 0 ≤ 601024 ∧ slots + 0 ≤ 7293034 by omega) (fun r N1 f1 hp hN1 => ?_)
  obtain ⟨rfl, hp⟩ := hp
  obtain ⟨⟨hmo, fm, hmf⟩, hm⟩ := hm N1 f1 hp
  refine z_aload_n X d_law_385 rfl ?_
  refine z_aload_n X d_law_386 rfl ?_
  refine z_iload X d_law_387 rfl ?_
  refine z_iconst X d_law_389 (v := 1) (by decide) ?_
  refine z_iadd X d_law_390 ?_
  refine z_sld X hX hbl hbA d_law_391 h1 ?_
  refine z_aload_n X d_law_392 rfl ?_
  refine z_iload X d_law_393 rfl ?_
  refine z_iconst X d_law_395 (v := 2) (by decide) ?_
  refine z_iadd X d_law_396 ?_
  refine z_sld X hX hbl hbA d_law_397 h2 ?_
  refine z_callV (As := [.int (xs (i + 1).toNatClampNeg), .int (xs (i + 2).toNatClampNeg)]) X zG_ok hm d_law_398 ⟨(z_cb (n := 2) X.2.2.2.2.1 ml_Law_79 mc_Mod_without ini_Mod (by decide +kernel) rfl rfl ⟨(Nat.le_of_ble_eq_true rfl), (Nat.le_of_ble_eq_true rfl)⟩), X.2.2.2.2.1 _ im_Mod_without, X.2.2.2.2.1 _ sel_Mod_without⟩ hmo hmf cl_Mod rfl rfl (Nat.le_of_ble_eq_true rfl) (show cells + 0 + 0 ≤ 601024 ∧ slots + 0 + 0 ≤ 7293034 by omega) (fun r N2 f2 hp hN2 => ?_)
  obtain ⟨rfl, hp⟩ := hp
  exact z_icmp_eq X 907 d_law_401 (by decide) (fun _ => zW.widen (by omega) (by omega) (kk N2 f2 hp)) (fun hx => absurd rfl hx)
set_option maxHeartbeats 2000000 in
theorem lw_c7 (X : zX p s m args meth c D zcl (zty ck) b0 (zG ad b0) code 7 "CheckRulesLaw" zTs ret) (htl : ∀ e, l.admits e → e.platform.stackTraces = false) (hX : va_X b L xs s s.heap) (hbl : b < s.heap.size) (hbA : ¬ b0 ≤ b) (hd : Ldj b0 T A A' ob) (h : Lst ck b0 T A A' ob N f) (h1 : vp_in (i + 1) L) (h2 : vp_in (i + 2) L) (h3 : vp_in (i + 3) L) (hr : cells + 5 ≤ 601024 ∧ slots + 132 ≤ 7293034) (kk : ∀ N' f', Lst ck b0 T A A' ob N' f' → zW p l e room_1 s m args below meth c D zcl b0 7 (cells + 5) (slots + 132) Q N' f' 907 (lwl b (A 0) (A' 38) ob i) []) : zW p l e room_1 s m args below meth c D zcl b0 7 cells slots Q N f 406 (lwl b (A 0) (A' 38) ob i) [] := by
  obtain ⟨hco, fs, hcf⟩ := (show (b0 ≤ A 0 ∧ A 0 < N) ∧ ∃ fs, f (A 0) = .inr (7, fs) from by obtain ⟨z, μ, jo, h0, -⟩ := h; exact h0.cobj)
  obtain ⟨ans, P, hc, hm⟩ := o_check (l := l) (D := D) (ad := ad)  hd h
  refine z_aload_n X d_law_406 rfl ?_
  refine z_callV (As := []) X zG_ok hc d_law_407 ⟨(z_cb (n := 0) X.2.2.2.2.1 ml_Law_80 mc_Cls_check ini_Cls (by decide +kernel) rfl rfl ⟨(Nat.le_of_ble_eq_true rfl), (Nat.le_of_ble_eq_true rfl)⟩), X.2.2.2.2.1 _ im_Cls_check, X.2.2.2.2.1 _ sel_Cls_check⟩ hco hcf cl_Cls rfl rfl (Nat.le_of_ble_eq_true rfl) (show cells + 0 ≤ 601024 ∧ slots + 0 ≤ 7293034 by omega) (fun r N1 f1 hp hN1 => ?_)
  obtain ⟨rfl, hp⟩ := hp
  obtain ⟨⟨hmo, fm, hmf⟩, hm⟩ := hm N1 f1 hp
  refine z_aload_n X d_law_410 rfl ?_
  refine z_callV (As := []) X zG_ok hm d_law_411 ⟨(z_cb (n := 0) X.2.2.2.2.1 ml_Law_83 mc_Mod_check ini_Mod (by decide +kernel) rfl rfl ⟨(Nat.le_of_ble_eq_true rfl), (Nat.le_of_ble_eq_true rfl)⟩), X.2.2.2.2.1 _ im_Mod_check, X.2.2.2.2.1 _ sel_Mod_check⟩ hmo hmf cl_Mod rfl rfl (Nat.le_of_ble_eq_true rfl) (show cells + 0 + 0 ≤ 601024 ∧ slots + 0 + 0 ≤ 7293034 by omega) (fun r N2 f2 hp hN2 => ?_)
  obtain ⟨rfl, hp⟩ := hp
  exact z_icmp_eq X 907 d_law_414 (by decide) (fun _ => zW.widen (by omega) (by omega) (kk N2 f2 hp)) (fun hx => absurd rfl hx)
set_option maxHeartbeats 2000000 in
theorem lw_c8 (X : zX p s m args meth c D zcl (zty ck) b0 (zG ad b0) code 7 "CheckRulesLaw" zTs ret) (htl : ∀ e, l.admits e → e.platform.stackTraces = false) (hX : va_X b L xs s s.heap) (hbl : b < s.heap.size) (hbA : ¬ b0 ≤ b) (hd : Ldj b0 T A A' ob) (h : Lst ck b0 T A A' ob N f) (h1 : vp_in (i + 1) L) (h2 : vp_in (i + 2) L) (h3 : vp_in (i + 3) L) (hr : cells + 5 ≤ 601024 ∧ slots + 132 ≤ 7293034) (kk : ∀ N' f', Lst ck b0 T A A' ob N' f' → zW p l e room_1 s m args below meth c D zcl b0 7 (cells + 5) (slots + 132) Q N' f' 907 (lwl b (A 0) (A' 38) ob i) []) : zW p l e room_1 s m args below meth c D zcl b0 7 cells slots Q N f 419 (lwl b (A 0) (A' 38) ob i) [] := by
  obtain ⟨hco, fs, hcf⟩ := (show (b0 ≤ A 0 ∧ A 0 < N) ∧ ∃ fs, f (A 0) = .inr (7, fs) from by obtain ⟨z, μ, jo, h0, -⟩ := h; exact h0.cobj)
  obtain ⟨ans, P, hc, hm⟩ := o_bad (l := l) (D := D) (ad := ad) (i := (xs (i + 1).toNatClampNeg)) (hb := !decide (xs (i + 2).toNatClampNeg = 0)) hd h
  refine z_aload_n X d_law_419 rfl ?_
  refine z_aload_n X d_law_420 rfl ?_
  refine z_iload X d_law_421 rfl ?_
  refine z_iconst X d_law_423 (v := 1) (by decide) ?_
  refine z_iadd X d_law_424 ?_
  refine z_sld X hX hbl hbA d_law_425 h1 ?_
  refine z_aload_n X d_law_426 rfl ?_
  refine z_iload X d_law_427 rfl ?_
  refine z_iconst X d_law_429 (v := 2) (by decide) ?_
  refine z_iadd X d_law_430 ?_
  refine z_sld X hX hbl hbA d_law_431 h2 ?_
  refine z_bl X d_law_432 d_law_435 d_law_436 d_law_439 ?_
  refine z_callV (As := [.int (xs (i + 1).toNatClampNeg), .int (zb (!decide (xs (i + 2).toNatClampNeg = 0)))]) X zG_ok hc d_law_440 ⟨(z_cb (n := 2) X.2.2.2.2.1 ml_Law_84 mc_Cls_bad ini_Cls (by decide +kernel) rfl rfl ⟨(Nat.le_of_ble_eq_true rfl), (Nat.le_of_ble_eq_true rfl)⟩), X.2.2.2.2.1 _ im_Cls_bad, X.2.2.2.2.1 _ sel_Cls_bad⟩ hco hcf cl_Cls rfl rfl (Nat.le_of_ble_eq_true rfl) (show cells + 0 ≤ 601024 ∧ slots + 0 ≤ 7293034 by omega) (fun r N1 f1 hp hN1 => ?_)
  obtain ⟨rfl, hp⟩ := hp
  obtain ⟨⟨hmo, fm, hmf⟩, hm⟩ := hm N1 f1 hp
  refine z_aload_n X d_law_443 rfl ?_
  refine z_aload_n X d_law_444 rfl ?_
  refine z_iload X d_law_445 rfl ?_
  refine z_iconst X d_law_447 (v := 1) (by decide) ?_
  refine z_iadd X d_law_448 ?_
  refine z_sld X hX hbl hbA d_law_449 h1 ?_
  refine z_aload_n X d_law_450 rfl ?_
  refine z_iload X d_law_451 rfl ?_
  refine z_iconst X d_law_453 (v := 2) (by decide) ?_
  refine z_iadd X d_law_454 ?_
  refine z_sld X hX hbl hbA d_law_455 h2 ?_
  refine z_bl X d_law_456 d_law_459 d_law_460 d_law_463 ?_
  refine z_callV (As := [.int (xs (i + 1).toNatClampNeg), .int (zb (!decide (xs (i + 2).toNatClampNeg = 0)))]) X zG_ok hm d_law_464 ⟨(z_cb (n := 2) X.2.2.2.2.1 ml_Law_88 mc_Mod_bad ini_Mod (by decide +kernel) rfl rfl ⟨(Nat.le_of_ble_eq_true rfl), (Nat.le_of_ble_eq_true rfl)⟩), X.2.2.2.2.1 _ im_Mod_bad, X.2.2.2.2.1 _ sel_Mod_bad⟩ hmo hmf cl_Mod rfl rfl (Nat.le_of_ble_eq_true rfl) (show cells + 0 + 0 ≤ 601024 ∧ slots + 0 + 0 ≤ 7293034 by omega) (fun r N2 f2 hp hN2 => ?_)
  obtain ⟨rfl, hp⟩ := hp
  exact z_icmp_eq X 907 d_law_467 (by decide) (fun _ => zW.widen (by omega) (by omega) (kk N2 f2 hp)) (fun hx => absurd rfl hx)
set_option maxHeartbeats 2000000 in
theorem lw_c9 (X : zX p s m args meth c D zcl (zty ck) b0 (zG ad b0) code 7 "CheckRulesLaw" zTs ret) (htl : ∀ e, l.admits e → e.platform.stackTraces = false) (hX : va_X b L xs s s.heap) (hbl : b < s.heap.size) (hbA : ¬ b0 ≤ b) (hd : Ldj b0 T A A' ob) (h : Lst ck b0 T A A' ob N f) (h1 : vp_in (i + 1) L) (h2 : vp_in (i + 2) L) (h3 : vp_in (i + 3) L) (hr : cells + 5 ≤ 601024 ∧ slots + 132 ≤ 7293034) (kk : ∀ N' f', Lst ck b0 T A A' ob N' f' → zW p l e room_1 s m args below meth c D zcl b0 7 (cells + 5) (slots + 132) Q N' f' 907 (lwl b (A 0) (A' 38) ob i) []) : zW p l e room_1 s m args below meth c D zcl b0 7 cells slots Q N f 472 (lwl b (A 0) (A' 38) ob i) [] := by
  obtain ⟨kq, ans, P, P2, hk, hc, hm⟩ := o_was (l := l) (D := D) (ad := ad) (i := (xs (i + 1).toNatClampNeg)) htl hd h
  refine z_aload_n X d_law_472 rfl ?_
  refine z_aload_n X d_law_473 rfl ?_
  refine z_iload X d_law_474 rfl ?_
  refine z_iconst X d_law_476 (v := 1) (by decide) ?_
  refine z_iadd X d_law_477 ?_
  refine z_sld X hX hbl hbA d_law_478 h1 ?_
  refine z_aload_n X d_law_479 rfl ?_
  refine z_callSW (As := [.ref (A 0), .int (xs (i + 1).toNatClampNeg), .ref ob]) (n := 3) X zG_ok hc d_law_480 rfl rfl (Nat.le_of_ble_eq_true rfl) (Nat.le_of_ble_eq_true rfl) mcw_Law_was ini_Law ⟨by decide, by decide⟩ (by decide +kernel) ml_Law_89 st_Law_was rfl rfl (Nat.le_of_ble_eq_true rfl) (show cells + 1 ≤ 601024 ∧ slots + 6 ≤ 7293034 by omega) (fun r N1 f1 hp hN1 => ?_)
  obtain ⟨rfl, hp⟩ := hp
  obtain ⟨⟨hmo, fm, hmf⟩, hm, ht⟩ := hm N1 f1 hp
  refine z_istore X d_law_483 (by decide) rfl ?_
  refine z_aload_n X d_law_485 rfl ?_
  refine z_aload_n X d_law_486 rfl ?_
  refine z_iload X d_law_487 rfl ?_
  refine z_iconst X d_law_489 (v := 1) (by decide) ?_
  refine z_iadd X d_law_490 ?_
  refine z_sld X hX hbl hbA d_law_491 h1 ?_
  refine z_callV (As := [.int (xs (i + 1).toNatClampNeg)]) X zG_ok hm d_law_492 ⟨(z_cb (n := 1) X.2.2.2.2.1 ml_Law_92 mc_Mod_was ini_Mod (by decide +kernel) rfl rfl ⟨(Nat.le_of_ble_eq_true rfl), (Nat.le_of_ble_eq_true rfl)⟩), X.2.2.2.2.1 _ im_Mod_was, X.2.2.2.2.1 _ sel_Mod_was⟩ hmo hmf cl_Mod rfl rfl (Nat.le_of_ble_eq_true rfl) (show cells + 1 + 0 ≤ 601024 ∧ slots + 6 + 0 ≤ 7293034 by omega) (fun r N2 f2 hp2 hN2 => ?_)
  obtain ⟨rfl, hp2⟩ := hp2
  obtain ⟨⟨hto, ft, htf⟩, ht⟩ := ht N2 f2 hp2
  refine z_istore X d_law_495 (by decide) rfl ?_
  refine z_aload_n X d_law_497 rfl ?_
  refine z_callV (As := []) X zG_ok ht d_law_498 ⟨(z_cb (n := 0) X.2.2.2.2.1 ml_Law_54 mc_Mod_thrown ini_Mod (by decide +kernel) rfl rfl ⟨(Nat.le_of_ble_eq_true rfl), (Nat.le_of_ble_eq_true rfl)⟩), X.2.2.2.2.1 _ im_Mod_thrown, X.2.2.2.2.1 _ sel_Mod_thrown⟩ hto htf cl_Mod rfl rfl (Nat.le_of_ble_eq_true rfl) (show cells + 1 + 0 + 0 ≤ 601024 ∧ slots + 6 + 0 + 0 ≤ 7293034 by omega) (fun r N3 f3 hp3 hN3 => ?_)
  obtain ⟨rfl, hls, jo, hjo, hj0⟩ := hp3
  refine z_iload X d_law_501 rfl ?_
  refine z_icmp_eq X 508 d_law_503 (by decide) (fun _ => ?_) (fun hx => absurd rfl hx)
  refine z_iload X d_law_508 rfl ?_
  refine z_if_ne X 525 d_law_510 (by decide) (fun _ => z_goto X 907 d_law_525 (by decide) (zW.loc (lv' := lwl b (A 0) (A' 38) ob i) (fun q hq => List.mem_append.mpr (Or.inl (List.mem_append.mpr (Or.inl hq)))) (zW.widen (by omega) (by omega) (kk N3 f3 hls)))) (fun h0 => ?_)
  refine z_aload_n X d_law_513 rfl ?_
  refine z_iconst X d_law_514 (v := 0) (by decide) ?_
  refine z_lald X d_law_515 ⟨hd.1, (by have q1 := hd.2.1; obtain ⟨z, μ, j9, q2, -⟩ := hls; have := q2.1; omega)⟩ hjo (t0 := 2) rfl (vp_in_nI (n := 0) (N := 1) (by decide) (by decide)) ?_
  refine z_iload X d_law_516 rfl ?_
  refine z_i2l X d_law_518 (v := ans.toInt64) rfl ?_
  refine z_lcmp X d_law_519 ?_
  exact z_if_eq X 525 d_law_520 (by decide) (fun _ => z_goto X 907 d_law_525 (by decide) (zW.loc (lv' := lwl b (A 0) (A' 38) ob i) (fun q hq => List.mem_append.mpr (Or.inl (List.mem_append.mpr (Or.inl hq)))) (zW.widen (by omega) (by omega) (kk N3 f3 hls)))) (fun hx => absurd (lg_cmp0 (hj0 h0)) hx)
set_option maxHeartbeats 2000000 in
theorem lw_c10 (X : zX p s m args meth c D zcl (zty ck) b0 (zG ad b0) code 7 "CheckRulesLaw" zTs ret) (htl : ∀ e, l.admits e → e.platform.stackTraces = false) (hX : va_X b L xs s s.heap) (hbl : b < s.heap.size) (hbA : ¬ b0 ≤ b) (hd : Ldj b0 T A A' ob) (h : Lst ck b0 T A A' ob N f) (h1 : vp_in (i + 1) L) (h2 : vp_in (i + 2) L) (h3 : vp_in (i + 3) L) (hr : cells + 5 ≤ 601024 ∧ slots + 132 ≤ 7293034) (kk : ∀ N' f', Lst ck b0 T A A' ob N' f' → zW p l e room_1 s m args below meth c D zcl b0 7 (cells + 5) (slots + 132) Q N' f' 907 (lwl b (A 0) (A' 38) ob i) []) : zW p l e room_1 s m args below meth c D zcl b0 7 cells slots Q N f 528 (lwl b (A 0) (A' 38) ob i) [] := by
  obtain ⟨kq, ans, P, P2, hk, hc, hm⟩ := o_is (l := l) (D := D) (ad := ad) (i := (xs (i + 1).toNatClampNeg)) htl hd h
  refine z_aload_n X d_law_528 rfl ?_
  refine z_aload_n X d_law_529 rfl ?_
  refine z_iload X d_law_530 rfl ?_
  refine z_iconst X d_law_532 (v := 1) (by decide) ?_
  refine z_iadd X d_law_533 ?_
  refine z_sld X hX hbl hbA d_law_534 h1 ?_
  refine z_aload_n X d_law_535 rfl ?_
  refine z_callSW (As := [.ref (A 0), .int (xs (i + 1).toNatClampNeg), .ref ob]) (n := 3) X zG_ok hc d_law_536 rfl rfl (Nat.le_of_ble_eq_true rfl) (Nat.le_of_ble_eq_true rfl) mcw_Law_is ini_Law ⟨by decide, by decide⟩ (by decide +kernel) ml_Law_93 st_Law_is rfl rfl (Nat.le_of_ble_eq_true rfl) (show cells + 1 ≤ 601024 ∧ slots + 6 ≤ 7293034 by omega) (fun r N1 f1 hp hN1 => ?_)
  obtain ⟨rfl, hp⟩ := hp
  obtain ⟨⟨hmo, fm, hmf⟩, hm, ht⟩ := hm N1 f1 hp
  refine z_istore X d_law_539 (by decide) rfl ?_
  refine z_aload_n X d_law_541 rfl ?_
  refine z_aload_n X d_law_542 rfl ?_
  refine z_iload X d_law_543 rfl ?_
  refine z_iconst X d_law_545 (v := 1) (by decide) ?_
  refine z_iadd X d_law_546 ?_
  refine z_sld X hX hbl hbA d_law_547 h1 ?_
  refine z_callV (As := [.int (xs (i + 1).toNatClampNeg)]) X zG_ok hm d_law_548 ⟨(z_cb (n := 1) X.2.2.2.2.1 ml_Law_95 mc_Mod_is ini_Mod (by decide +kernel) rfl rfl ⟨(Nat.le_of_ble_eq_true rfl), (Nat.le_of_ble_eq_true rfl)⟩), X.2.2.2.2.1 _ im_Mod_is, X.2.2.2.2.1 _ sel_Mod_is⟩ hmo hmf cl_Mod rfl rfl (Nat.le_of_ble_eq_true rfl) (show cells + 1 + 0 ≤ 601024 ∧ slots + 6 + 0 ≤ 7293034 by omega) (fun r N2 f2 hp2 hN2 => ?_)
  obtain ⟨rfl, hp2⟩ := hp2
  obtain ⟨⟨hto, ft, htf⟩, ht⟩ := ht N2 f2 hp2
  refine z_istore X d_law_551 (by decide) rfl ?_
  refine z_aload_n X d_law_553 rfl ?_
  refine z_callV (As := []) X zG_ok ht d_law_554 ⟨(z_cb (n := 0) X.2.2.2.2.1 ml_Law_54 mc_Mod_thrown ini_Mod (by decide +kernel) rfl rfl ⟨(Nat.le_of_ble_eq_true rfl), (Nat.le_of_ble_eq_true rfl)⟩), X.2.2.2.2.1 _ im_Mod_thrown, X.2.2.2.2.1 _ sel_Mod_thrown⟩ hto htf cl_Mod rfl rfl (Nat.le_of_ble_eq_true rfl) (show cells + 1 + 0 + 0 ≤ 601024 ∧ slots + 6 + 0 + 0 ≤ 7293034 by omega) (fun r N3 f3 hp3 hN3 => ?_)
  obtain ⟨rfl, hls, jo, hjo, hj0⟩ := hp3
  refine z_iload X d_law_557 rfl ?_
  refine z_icmp_eq X 564 d_law_559 (by decide) (fun _ => ?_) (fun hx => absurd rfl hx)
  refine z_iload X d_law_564 rfl ?_
  refine z_if_ne X 581 d_law_566 (by decide) (fun _ => z_goto X 907 d_law_581 (by decide) (zW.loc (lv' := lwl b (A 0) (A' 38) ob i) (fun q hq => List.mem_append.mpr (Or.inl (List.mem_append.mpr (Or.inl hq)))) (zW.widen (by omega) (by omega) (kk N3 f3 hls)))) (fun h0 => ?_)
  refine z_aload_n X d_law_569 rfl ?_
  refine z_iconst X d_law_570 (v := 0) (by decide) ?_
  refine z_lald X d_law_571 ⟨hd.1, (by have q1 := hd.2.1; obtain ⟨z, μ, j9, q2, -⟩ := hls; have := q2.1; omega)⟩ hjo (t0 := 2) rfl (vp_in_nI (n := 0) (N := 1) (by decide) (by decide)) ?_
  refine z_iload X d_law_572 rfl ?_
  refine z_i2l X d_law_574 (v := ans.toInt64) rfl ?_
  refine z_lcmp X d_law_575 ?_
  exact z_if_eq X 581 d_law_576 (by decide) (fun _ => z_goto X 907 d_law_581 (by decide) (zW.loc (lv' := lwl b (A 0) (A' 38) ob i) (fun q hq => List.mem_append.mpr (Or.inl (List.mem_append.mpr (Or.inl hq)))) (zW.widen (by omega) (by omega) (kk N3 f3 hls)))) (fun hx => absurd (lg_cmp0 (hj0 h0)) hx)
set_option maxHeartbeats 2000000 in
theorem lw_c11 (X : zX p s m args meth c D zcl (zty ck) b0 (zG ad b0) code 7 "CheckRulesLaw" zTs ret) (htl : ∀ e, l.admits e → e.platform.stackTraces = false) (hX : va_X b L xs s s.heap) (hbl : b < s.heap.size) (hbA : ¬ b0 ≤ b) (hd : Ldj b0 T A A' ob) (h : Lst ck b0 T A A' ob N f) (h1 : vp_in (i + 1) L) (h2 : vp_in (i + 2) L) (h3 : vp_in (i + 3) L) (hr : cells + 5 ≤ 601024 ∧ slots + 132 ≤ 7293034) (kk : ∀ N' f', Lst ck b0 T A A' ob N' f' → zW p l e room_1 s m args below meth c D zcl b0 7 (cells + 5) (slots + 132) Q N' f' 907 (lwl b (A 0) (A' 38) ob i) []) : zW p l e room_1 s m args below meth c D zcl b0 7 cells slots Q N f 584 (lwl b (A 0) (A' 38) ob i) [] := by
  obtain ⟨hco, fs, hcf⟩ := (show (b0 ≤ A 0 ∧ A 0 < N) ∧ ∃ fs, f (A 0) = .inr (7, fs) from by obtain ⟨z, μ, jo, h0, -⟩ := h; exact h0.cobj)
  obtain ⟨ans, P, hc, hm⟩ := o_answer (l := l) (D := D) (ad := ad) (i := (xs (i + 1).toNatClampNeg)) hd h
  refine z_aload_n X d_law_584 rfl ?_
  refine z_aload_n X d_law_585 rfl ?_
  refine z_iload X d_law_586 rfl ?_
  refine z_iconst X d_law_588 (v := 1) (by decide) ?_
  refine z_iadd X d_law_589 ?_
  refine z_sld X hX hbl hbA d_law_590 h1 ?_
  refine z_callV (As := [.int (xs (i + 1).toNatClampNeg)]) X zG_ok hc d_law_591 ⟨(z_cb (n := 1) X.2.2.2.2.1 ml_Law_96 mc_Cls_answer ini_Cls (by decide +kernel) rfl rfl ⟨(Nat.le_of_ble_eq_true rfl), (Nat.le_of_ble_eq_true rfl)⟩), X.2.2.2.2.1 _ im_Cls_answer, X.2.2.2.2.1 _ sel_Cls_answer⟩ hco hcf cl_Cls rfl rfl (Nat.le_of_ble_eq_true rfl) (show cells + 0 ≤ 601024 ∧ slots + 0 ≤ 7293034 by omega) (fun r N1 f1 hp hN1 => ?_)
  obtain ⟨rfl, hp⟩ := hp
  obtain ⟨⟨hmo, fm, hmf⟩, hm⟩ := hm N1 f1 hp
  refine z_aload_n X d_law_594 rfl ?_
  refine z_aload_n X d_law_595 rfl ?_
  refine z_iload X d_law_596 rfl ?_
  refine z_iconst X d_law_598 (v := 1) (by decide) ?_
  refine z_iadd X d_law_599 ?_
  refine z_sld X hX hbl hbA d_law_600 h1 ?_
  refine z_callV (As := [.int (xs (i + 1).toNatClampNeg)]) X zG_ok hm d_law_601 ⟨(z_cb (n := 1) X.2.2.2.2.1 ml_Law_99 mc_Mod_answer ini_Mod (by decide +kernel) rfl rfl ⟨(Nat.le_of_ble_eq_true rfl), (Nat.le_of_ble_eq_true rfl)⟩), X.2.2.2.2.1 _ im_Mod_answer, X.2.2.2.2.1 _ sel_Mod_answer⟩ hmo hmf cl_Mod rfl rfl (Nat.le_of_ble_eq_true rfl) (show cells + 0 + 0 ≤ 601024 ∧ slots + 0 + 0 ≤ 7293034 by omega) (fun r N2 f2 hp hN2 => ?_)
  obtain ⟨rfl, hp⟩ := hp
  exact z_icmp_eq X 907 d_law_604 (by decide) (fun _ => zW.widen (by omega) (by omega) (kk N2 f2 hp)) (fun hx => absurd rfl hx)
set_option maxHeartbeats 2000000 in
theorem lw_c12 (X : zX p s m args meth c D zcl (zty ck) b0 (zG ad b0) code 7 "CheckRulesLaw" zTs ret) (htl : ∀ e, l.admits e → e.platform.stackTraces = false) (hX : va_X b L xs s s.heap) (hbl : b < s.heap.size) (hbA : ¬ b0 ≤ b) (hd : Ldj b0 T A A' ob) (h : Lst ck b0 T A A' ob N f) (h1 : vp_in (i + 1) L) (h2 : vp_in (i + 2) L) (h3 : vp_in (i + 3) L) (hr : cells + 5 ≤ 601024 ∧ slots + 132 ≤ 7293034) (kk : ∀ N' f', Lst ck b0 T A A' ob N' f' → zW p l e room_1 s m args below meth c D zcl b0 7 (cells + 5) (slots + 132) Q N' f' 907 (lwl b (A 0) (A' 38) ob i) []) : zW p l e room_1 s m args below meth c D zcl b0 7 cells slots Q N f 609 (lwl b (A 0) (A' 38) ob i) [] := by
  obtain ⟨kq, ans, P, P2, hk, hc, hm⟩ := o_touch (l := l) (D := D) (ad := ad) (i := (xs (i + 1).toNatClampNeg)) htl hd h
  refine z_aload_n X d_law_609 rfl ?_
  refine z_aload_n X d_law_610 rfl ?_
  refine z_iload X d_law_611 rfl ?_
  refine z_iconst X d_law_613 (v := 1) (by decide) ?_
  refine z_iadd X d_law_614 ?_
  refine z_sld X hX hbl hbA d_law_615 h1 ?_
  refine z_aload_n X d_law_616 rfl ?_
  refine z_callSW (As := [.ref (A 0), .int (xs (i + 1).toNatClampNeg), .ref ob]) (n := 3) X zG_ok hc d_law_617 rfl rfl (Nat.le_of_ble_eq_true rfl) (Nat.le_of_ble_eq_true rfl) mcw_Law_touch ini_Law ⟨by decide, by decide⟩ (by decide +kernel) ml_Law_100 st_Law_touch rfl rfl (Nat.le_of_ble_eq_true rfl) (show cells + 1 ≤ 601024 ∧ slots + 6 ≤ 7293034 by omega) (fun r N1 f1 hp hN1 => ?_)
  obtain ⟨rfl, hp⟩ := hp
  obtain ⟨⟨hmo, fm, hmf⟩, hm, ht⟩ := hm N1 f1 hp
  refine z_istore X d_law_620 (by decide) rfl ?_
  refine z_aload_n X d_law_622 rfl ?_
  refine z_aload_n X d_law_623 rfl ?_
  refine z_iload X d_law_624 rfl ?_
  refine z_iconst X d_law_626 (v := 1) (by decide) ?_
  refine z_iadd X d_law_627 ?_
  refine z_sld X hX hbl hbA d_law_628 h1 ?_
  refine z_callV (As := [.int (xs (i + 1).toNatClampNeg)]) X zG_ok hm d_law_629 ⟨(z_cb (n := 1) X.2.2.2.2.1 ml_Law_102 mc_Mod_touch ini_Mod (by decide +kernel) rfl rfl ⟨(Nat.le_of_ble_eq_true rfl), (Nat.le_of_ble_eq_true rfl)⟩), X.2.2.2.2.1 _ im_Mod_touch, X.2.2.2.2.1 _ sel_Mod_touch⟩ hmo hmf cl_Mod rfl rfl (Nat.le_of_ble_eq_true rfl) (show cells + 1 + 0 ≤ 601024 ∧ slots + 6 + 0 ≤ 7293034 by omega) (fun r N2 f2 hp2 hN2 => ?_)
  obtain ⟨rfl, hp2⟩ := hp2
  obtain ⟨⟨hto, ft, htf⟩, ht⟩ := ht N2 f2 hp2
  refine z_istore X d_law_632 (by decide) rfl ?_
  refine z_aload_n X d_law_634 rfl ?_
  refine z_callV (As := []) X zG_ok ht d_law_635 ⟨(z_cb (n := 0) X.2.2.2.2.1 ml_Law_54 mc_Mod_thrown ini_Mod (by decide +kernel) rfl rfl ⟨(Nat.le_of_ble_eq_true rfl), (Nat.le_of_ble_eq_true rfl)⟩), X.2.2.2.2.1 _ im_Mod_thrown, X.2.2.2.2.1 _ sel_Mod_thrown⟩ hto htf cl_Mod rfl rfl (Nat.le_of_ble_eq_true rfl) (show cells + 1 + 0 + 0 ≤ 601024 ∧ slots + 6 + 0 + 0 ≤ 7293034 by omega) (fun r N3 f3 hp3 hN3 => ?_)
  obtain ⟨rfl, hls, jo, hjo, hj0⟩ := hp3
  refine z_iload X d_law_638 rfl ?_
  refine z_icmp_eq X 645 d_law_640 (by decide) (fun _ => ?_) (fun hx => absurd rfl hx)
  refine z_iload X d_law_645 rfl ?_
  refine z_if_ne X 662 d_law_647 (by decide) (fun _ => z_goto X 907 d_law_662 (by decide) (zW.loc (lv' := lwl b (A 0) (A' 38) ob i) (fun q hq => List.mem_append.mpr (Or.inl (List.mem_append.mpr (Or.inl hq)))) (zW.widen (by omega) (by omega) (kk N3 f3 hls)))) (fun h0 => ?_)
  refine z_aload_n X d_law_650 rfl ?_
  refine z_iconst X d_law_651 (v := 0) (by decide) ?_
  refine z_lald X d_law_652 ⟨hd.1, (by have q1 := hd.2.1; obtain ⟨z, μ, j9, q2, -⟩ := hls; have := q2.1; omega)⟩ hjo (t0 := 2) rfl (vp_in_nI (n := 0) (N := 1) (by decide) (by decide)) ?_
  refine z_iload X d_law_653 rfl ?_
  refine z_i2l X d_law_655 (v := ans.toInt64) rfl ?_
  refine z_lcmp X d_law_656 ?_
  exact z_if_eq X 662 d_law_657 (by decide) (fun _ => z_goto X 907 d_law_662 (by decide) (zW.loc (lv' := lwl b (A 0) (A' 38) ob i) (fun q hq => List.mem_append.mpr (Or.inl (List.mem_append.mpr (Or.inl hq)))) (zW.widen (by omega) (by omega) (kk N3 f3 hls)))) (fun hx => absurd (lg_cmp0 (hj0 h0)) hx)
set_option maxHeartbeats 2000000 in
theorem lw_c13 (X : zX p s m args meth c D zcl (zty ck) b0 (zG ad b0) code 7 "CheckRulesLaw" zTs ret) (htl : ∀ e, l.admits e → e.platform.stackTraces = false) (hX : va_X b L xs s s.heap) (hbl : b < s.heap.size) (hbA : ¬ b0 ≤ b) (hd : Ldj b0 T A A' ob) (h : Lst ck b0 T A A' ob N f) (h1 : vp_in (i + 1) L) (h2 : vp_in (i + 2) L) (h3 : vp_in (i + 3) L) (hr : cells + 5 ≤ 601024 ∧ slots + 132 ≤ 7293034) (kk : ∀ N' f', Lst ck b0 T A A' ob N' f' → zW p l e room_1 s m args below meth c D zcl b0 7 (cells + 5) (slots + 132) Q N' f' 907 (lwl b (A 0) (A' 38) ob i) []) : zW p l e room_1 s m args below meth c D zcl b0 7 cells slots Q N f 665 (lwl b (A 0) (A' 38) ob i) [] := by
  obtain ⟨hco, fs, hcf⟩ := (show (b0 ≤ A 0 ∧ A 0 < N) ∧ ∃ fs, f (A 0) = .inr (7, fs) from by obtain ⟨z, μ, jo, h0, -⟩ := h; exact h0.cobj)
  obtain ⟨ans, P, hc, hm⟩ := o_never (l := l) (D := D) (ad := ad) (i := (xs (i + 1).toNatClampNeg)) hd h
  refine z_aload_n X d_law_665 rfl ?_
  refine z_aload_n X d_law_666 rfl ?_
  refine z_iload X d_law_667 rfl ?_
  refine z_iconst X d_law_669 (v := 1) (by decide) ?_
  refine z_iadd X d_law_670 ?_
  refine z_sld X hX hbl hbA d_law_671 h1 ?_
  refine z_callV (As := [.int (xs (i + 1).toNatClampNeg)]) X zG_ok hc d_law_672 ⟨(z_cb (n := 1) X.2.2.2.2.1 ml_Law_103 mc_Cls_never ini_Cls (by decide +kernel) rfl rfl ⟨(Nat.le_of_ble_eq_true rfl), (Nat.le_of_ble_eq_true rfl)⟩), X.2.2.2.2.1 _ im_Cls_never, X.2.2.2.2.1 _ sel_Cls_never⟩ hco hcf cl_Cls rfl rfl (Nat.le_of_ble_eq_true rfl) (show cells + 0 ≤ 601024 ∧ slots + 0 ≤ 7293034 by omega) (fun r N1 f1 hp hN1 => ?_)
  obtain ⟨rfl, hp⟩ := hp
  obtain ⟨⟨hmo, fm, hmf⟩, hm⟩ := hm N1 f1 hp
  refine z_aload_n X d_law_675 rfl ?_
  refine z_aload_n X d_law_676 rfl ?_
  refine z_iload X d_law_677 rfl ?_
  refine z_iconst X d_law_679 (v := 1) (by decide) ?_
  refine z_iadd X d_law_680 ?_
  refine z_sld X hX hbl hbA d_law_681 h1 ?_
  refine z_callV (As := [.int (xs (i + 1).toNatClampNeg)]) X zG_ok hm d_law_682 ⟨(z_cb (n := 1) X.2.2.2.2.1 ml_Law_106 mc_Mod_never ini_Mod (by decide +kernel) rfl rfl ⟨(Nat.le_of_ble_eq_true rfl), (Nat.le_of_ble_eq_true rfl)⟩), X.2.2.2.2.1 _ im_Mod_never, X.2.2.2.2.1 _ sel_Mod_never⟩ hmo hmf cl_Mod rfl rfl (Nat.le_of_ble_eq_true rfl) (show cells + 0 + 0 ≤ 601024 ∧ slots + 0 + 0 ≤ 7293034 by omega) (fun r N2 f2 hp hN2 => ?_)
  obtain ⟨rfl, hp⟩ := hp
  exact z_icmp_eq X 907 d_law_685 (by decide) (fun _ => zW.widen (by omega) (by omega) (kk N2 f2 hp)) (fun hx => absurd rfl hx)
set_option maxHeartbeats 2000000 in
theorem lw_c14 (X : zX p s m args meth c D zcl (zty ck) b0 (zG ad b0) code 7 "CheckRulesLaw" zTs ret) (htl : ∀ e, l.admits e → e.platform.stackTraces = false) (hX : va_X b L xs s s.heap) (hbl : b < s.heap.size) (hbA : ¬ b0 ≤ b) (hd : Ldj b0 T A A' ob) (h : Lst ck b0 T A A' ob N f) (h1 : vp_in (i + 1) L) (h2 : vp_in (i + 2) L) (h3 : vp_in (i + 3) L) (hr : cells + 5 ≤ 601024 ∧ slots + 132 ≤ 7293034) (kk : ∀ N' f', Lst ck b0 T A A' ob N' f' → zW p l e room_1 s m args below meth c D zcl b0 7 (cells + 5) (slots + 132) Q N' f' 907 (lwl b (A 0) (A' 38) ob i) []) : zW p l e room_1 s m args below meth c D zcl b0 7 cells slots Q N f 690 (lwl b (A 0) (A' 38) ob i) [] := by
  obtain ⟨kq, ans, P, P2, hk, hc, hm⟩ := o_node (l := l) (D := D) (ad := ad) (i := (xs (i + 1).toNatClampNeg)) (i1 := (xs (i + 2).toNatClampNeg)) (w := (xs (i + 3).toNatClampNeg)) htl hd h
  refine z_aload_n X d_law_690 rfl ?_
  refine z_aload_n X d_law_691 rfl ?_
  refine z_iload X d_law_692 rfl ?_
  refine z_iconst X d_law_694 (v := 1) (by decide) ?_
  refine z_iadd X d_law_695 ?_
  refine z_sld X hX hbl hbA d_law_696 h1 ?_
  refine z_aload_n X d_law_697 rfl ?_
  refine z_iload X d_law_698 rfl ?_
  refine z_iconst X d_law_700 (v := 2) (by decide) ?_
  refine z_iadd X d_law_701 ?_
  refine z_sld X hX hbl hbA d_law_702 h2 ?_
  refine z_aload_n X d_law_703 rfl ?_
  refine z_iload X d_law_704 rfl ?_
  refine z_iconst X d_law_706 (v := 3) (by decide) ?_
  refine z_iadd X d_law_707 ?_
  refine z_sld X hX hbl hbA d_law_708 h3 ?_
  refine z_aload_n X d_law_709 rfl ?_
  refine z_callSW (As := [.ref (A 0), .int (xs (i + 1).toNatClampNeg), .int (xs (i + 2).toNatClampNeg), .int (xs (i + 3).toNatClampNeg), .ref ob]) (n := 5) X zG_ok hc d_law_710 rfl rfl (Nat.le_of_ble_eq_true rfl) (Nat.le_of_ble_eq_true rfl) mcw_Law_node ini_Law ⟨by decide, by decide⟩ (by decide +kernel) ml_Law_107 st_Law_node rfl rfl (Nat.le_of_ble_eq_true rfl) (show cells + 1 ≤ 601024 ∧ slots + 6 ≤ 7293034 by omega) (fun r N1 f1 hp hN1 => ?_)
  obtain ⟨rfl, hp⟩ := hp
  obtain ⟨⟨hmo, fm, hmf⟩, hm, ht⟩ := hm N1 f1 hp
  refine z_istore X d_law_713 (by decide) rfl ?_
  refine z_aload_n X d_law_715 rfl ?_
  refine z_aload_n X d_law_716 rfl ?_
  refine z_iload X d_law_717 rfl ?_
  refine z_iconst X d_law_719 (v := 1) (by decide) ?_
  refine z_iadd X d_law_720 ?_
  refine z_sld X hX hbl hbA d_law_721 h1 ?_
  refine z_aload_n X d_law_722 rfl ?_
  refine z_iload X d_law_723 rfl ?_
  refine z_iconst X d_law_725 (v := 2) (by decide) ?_
  refine z_iadd X d_law_726 ?_
  refine z_sld X hX hbl hbA d_law_727 h2 ?_
  refine z_aload_n X d_law_728 rfl ?_
  refine z_iload X d_law_729 rfl ?_
  refine z_iconst X d_law_731 (v := 3) (by decide) ?_
  refine z_iadd X d_law_732 ?_
  refine z_sld X hX hbl hbA d_law_733 h3 ?_
  refine z_callV (As := [.int (xs (i + 1).toNatClampNeg), .int (xs (i + 2).toNatClampNeg), .int (xs (i + 3).toNatClampNeg)]) X zG_ok hm d_law_734 ⟨(z_cb (n := 3) X.2.2.2.2.1 ml_Law_110 mc_Mod_node2 ini_Mod (by decide +kernel) rfl rfl ⟨(Nat.le_of_ble_eq_true rfl), (Nat.le_of_ble_eq_true rfl)⟩), X.2.2.2.2.1 _ im_Mod_node2, X.2.2.2.2.1 _ sel_Mod_node2⟩ hmo hmf cl_Mod rfl rfl (Nat.le_of_ble_eq_true rfl) (show cells + 1 + 0 ≤ 601024 ∧ slots + 6 + 0 ≤ 7293034 by omega) (fun r N2 f2 hp2 hN2 => ?_)
  obtain ⟨rfl, hp2⟩ := hp2
  obtain ⟨⟨hto, ft, htf⟩, ht⟩ := ht N2 f2 hp2
  refine z_istore X d_law_737 (by decide) rfl ?_
  refine z_aload_n X d_law_739 rfl ?_
  refine z_callV (As := []) X zG_ok ht d_law_740 ⟨(z_cb (n := 0) X.2.2.2.2.1 ml_Law_54 mc_Mod_thrown ini_Mod (by decide +kernel) rfl rfl ⟨(Nat.le_of_ble_eq_true rfl), (Nat.le_of_ble_eq_true rfl)⟩), X.2.2.2.2.1 _ im_Mod_thrown, X.2.2.2.2.1 _ sel_Mod_thrown⟩ hto htf cl_Mod rfl rfl (Nat.le_of_ble_eq_true rfl) (show cells + 1 + 0 + 0 ≤ 601024 ∧ slots + 6 + 0 + 0 ≤ 7293034 by omega) (fun r N3 f3 hp3 hN3 => ?_)
  obtain ⟨rfl, hls, jo, hjo, hj0⟩ := hp3
  refine z_iload X d_law_743 rfl ?_
  refine z_icmp_eq X 750 d_law_745 (by decide) (fun _ => ?_) (fun hx => absurd rfl hx)
  refine z_iload X d_law_750 rfl ?_
  refine z_if_ne X 767 d_law_752 (by decide) (fun _ => z_goto X 907 d_law_767 (by decide) (zW.loc (lv' := lwl b (A 0) (A' 38) ob i) (fun q hq => List.mem_append.mpr (Or.inl (List.mem_append.mpr (Or.inl hq)))) (zW.widen (by omega) (by omega) (kk N3 f3 hls)))) (fun h0 => ?_)
  refine z_aload_n X d_law_755 rfl ?_
  refine z_iconst X d_law_756 (v := 0) (by decide) ?_
  refine z_lald X d_law_757 ⟨hd.1, (by have q1 := hd.2.1; obtain ⟨z, μ, j9, q2, -⟩ := hls; have := q2.1; omega)⟩ hjo (t0 := 2) rfl (vp_in_nI (n := 0) (N := 1) (by decide) (by decide)) ?_
  refine z_iload X d_law_758 rfl ?_
  refine z_i2l X d_law_760 (v := ans.toInt64) rfl ?_
  refine z_lcmp X d_law_761 ?_
  exact z_if_eq X 767 d_law_762 (by decide) (fun _ => z_goto X 907 d_law_767 (by decide) (zW.loc (lv' := lwl b (A 0) (A' 38) ob i) (fun q hq => List.mem_append.mpr (Or.inl (List.mem_append.mpr (Or.inl hq)))) (zW.widen (by omega) (by omega) (kk N3 f3 hls)))) (fun hx => absurd (lg_cmp0 (hj0 h0)) hx)
set_option maxHeartbeats 2000000 in
theorem lw_c15 (X : zX p s m args meth c D zcl (zty ck) b0 (zG ad b0) code 7 "CheckRulesLaw" zTs ret) (htl : ∀ e, l.admits e → e.platform.stackTraces = false) (hX : va_X b L xs s s.heap) (hbl : b < s.heap.size) (hbA : ¬ b0 ≤ b) (hd : Ldj b0 T A A' ob) (h : Lst ck b0 T A A' ob N f) (h1 : vp_in (i + 1) L) (h2 : vp_in (i + 2) L) (h3 : vp_in (i + 3) L) (hr : cells + 5 ≤ 601024 ∧ slots + 132 ≤ 7293034) (kk : ∀ N' f', Lst ck b0 T A A' ob N' f' → zW p l e room_1 s m args below meth c D zcl b0 7 (cells + 5) (slots + 132) Q N' f' 907 (lwl b (A 0) (A' 38) ob i) []) : zW p l e room_1 s m args below meth c D zcl b0 7 cells slots Q N f 770 (lwl b (A 0) (A' 38) ob i) [] := by
  obtain ⟨kq, ans, P, P2, hk, hc, hm⟩ := o_print (l := l) (D := D) (ad := ad) (i := (xs (i + 1).toNatClampNeg)) htl hd h
  refine z_aload_n X d_law_770 rfl ?_
  refine z_aload_n X d_law_771 rfl ?_
  refine z_iload X d_law_772 rfl ?_
  refine z_iconst X d_law_774 (v := 1) (by decide) ?_
  refine z_iadd X d_law_775 ?_
  refine z_sld X hX hbl hbA d_law_776 h1 ?_
  refine z_aload_n X d_law_777 rfl ?_
  refine z_callSW (As := [.ref (A 0), .int (xs (i + 1).toNatClampNeg), .ref ob]) (n := 3) X zG_ok hc d_law_778 rfl rfl (Nat.le_of_ble_eq_true rfl) (Nat.le_of_ble_eq_true rfl) mcw_Law_print ini_Law ⟨by decide, by decide⟩ (by decide +kernel) ml_Law_111 st_Law_print rfl rfl (Nat.le_of_ble_eq_true rfl) (show cells + 1 ≤ 601024 ∧ slots + 6 ≤ 7293034 by omega) (fun r N1 f1 hp hN1 => ?_)
  obtain ⟨rfl, hp⟩ := hp
  obtain ⟨⟨hmo, fm, hmf⟩, hm, ht⟩ := hm N1 f1 hp
  refine z_istore X d_law_781 (by decide) rfl ?_
  refine z_aload_n X d_law_783 rfl ?_
  refine z_aload_n X d_law_784 rfl ?_
  refine z_iload X d_law_785 rfl ?_
  refine z_iconst X d_law_787 (v := 1) (by decide) ?_
  refine z_iadd X d_law_788 ?_
  refine z_sld X hX hbl hbA d_law_789 h1 ?_
  refine z_callV (As := [.int (xs (i + 1).toNatClampNeg)]) X zG_ok hm d_law_790 ⟨(z_cb (n := 1) X.2.2.2.2.1 ml_Law_113 mc_Mod_print ini_Mod (by decide +kernel) rfl rfl ⟨(Nat.le_of_ble_eq_true rfl), (Nat.le_of_ble_eq_true rfl)⟩), X.2.2.2.2.1 _ im_Mod_print, X.2.2.2.2.1 _ sel_Mod_print⟩ hmo hmf cl_Mod rfl rfl (Nat.le_of_ble_eq_true rfl) (show cells + 1 + 0 ≤ 601024 ∧ slots + 6 + 0 ≤ 7293034 by omega) (fun r N2 f2 hp2 hN2 => ?_)
  obtain ⟨rfl, hp2⟩ := hp2
  obtain ⟨⟨hto, ft, htf⟩, ht⟩ := ht N2 f2 hp2
  refine z_istore X d_law_793 (by decide) rfl ?_
  refine z_aload_n X d_law_795 rfl ?_
  refine z_callV (As := []) X zG_ok ht d_law_796 ⟨(z_cb (n := 0) X.2.2.2.2.1 ml_Law_54 mc_Mod_thrown ini_Mod (by decide +kernel) rfl rfl ⟨(Nat.le_of_ble_eq_true rfl), (Nat.le_of_ble_eq_true rfl)⟩), X.2.2.2.2.1 _ im_Mod_thrown, X.2.2.2.2.1 _ sel_Mod_thrown⟩ hto htf cl_Mod rfl rfl (Nat.le_of_ble_eq_true rfl) (show cells + 1 + 0 + 0 ≤ 601024 ∧ slots + 6 + 0 + 0 ≤ 7293034 by omega) (fun r N3 f3 hp3 hN3 => ?_)
  obtain ⟨rfl, hls, jo, hjo, hj0⟩ := hp3
  refine z_iload X d_law_799 rfl ?_
  refine z_icmp_eq X 806 d_law_801 (by decide) (fun _ => ?_) (fun hx => absurd rfl hx)
  refine z_iload X d_law_806 rfl ?_
  refine z_if_ne X 823 d_law_808 (by decide) (fun _ => z_goto X 907 d_law_823 (by decide) (zW.loc (lv' := lwl b (A 0) (A' 38) ob i) (fun q hq => List.mem_append.mpr (Or.inl (List.mem_append.mpr (Or.inl hq)))) (zW.widen (by omega) (by omega) (kk N3 f3 hls)))) (fun h0 => ?_)
  refine z_aload_n X d_law_811 rfl ?_
  refine z_iconst X d_law_812 (v := 0) (by decide) ?_
  refine z_lald X d_law_813 ⟨hd.1, (by have q1 := hd.2.1; obtain ⟨z, μ, j9, q2, -⟩ := hls; have := q2.1; omega)⟩ hjo (t0 := 2) rfl (vp_in_nI (n := 0) (N := 1) (by decide) (by decide)) ?_
  refine z_iload X d_law_814 rfl ?_
  refine z_i2l X d_law_816 (v := ans.toInt64) rfl ?_
  refine z_lcmp X d_law_817 ?_
  exact z_if_eq X 823 d_law_818 (by decide) (fun _ => z_goto X 907 d_law_823 (by decide) (zW.loc (lv' := lwl b (A 0) (A' 38) ob i) (fun q hq => List.mem_append.mpr (Or.inl (List.mem_append.mpr (Or.inl hq)))) (zW.widen (by omega) (by omega) (kk N3 f3 hls)))) (fun hx => absurd (lg_cmp0 (hj0 h0)) hx)
set_option maxHeartbeats 2000000 in
theorem lw_c16 (X : zX p s m args meth c D zcl (zty ck) b0 (zG ad b0) code 7 "CheckRulesLaw" zTs ret) (htl : ∀ e, l.admits e → e.platform.stackTraces = false) (hX : va_X b L xs s s.heap) (hbl : b < s.heap.size) (hbA : ¬ b0 ≤ b) (hd : Ldj b0 T A A' ob) (h : Lst ck b0 T A A' ob N f) (h1 : vp_in (i + 1) L) (h2 : vp_in (i + 2) L) (h3 : vp_in (i + 3) L) (hr : cells + 5 ≤ 601024 ∧ slots + 132 ≤ 7293034) (kk : ∀ N' f', Lst ck b0 T A A' ob N' f' → zW p l e room_1 s m args below meth c D zcl b0 7 (cells + 5) (slots + 132) Q N' f' 907 (lwl b (A 0) (A' 38) ob i) []) : zW p l e room_1 s m args below meth c D zcl b0 7 cells slots Q N f 826 (lwl b (A 0) (A' 38) ob i) [] := by
  obtain ⟨kq, ans, P, P2, hk, hc, hm⟩ := o_at (l := l) (D := D) (ad := ad) (i := (xs (i + 1).toNatClampNeg)) htl hd h
  refine z_aload_n X d_law_826 rfl ?_
  refine z_aload_n X d_law_827 rfl ?_
  refine z_iload X d_law_828 rfl ?_
  refine z_iconst X d_law_830 (v := 1) (by decide) ?_
  refine z_iadd X d_law_831 ?_
  refine z_sld X hX hbl hbA d_law_832 h1 ?_
  refine z_aload_n X d_law_833 rfl ?_
  refine z_callSW (As := [.ref (A 0), .int (xs (i + 1).toNatClampNeg), .ref ob]) (n := 3) X zG_ok hc d_law_834 rfl rfl (Nat.le_of_ble_eq_true rfl) (Nat.le_of_ble_eq_true rfl) mcw_Law_at ini_Law ⟨by decide, by decide⟩ (by decide +kernel) ml_Law_114 st_Law_at rfl rfl (Nat.le_of_ble_eq_true rfl) (show cells + 1 ≤ 601024 ∧ slots + 6 ≤ 7293034 by omega) (fun r N1 f1 hp hN1 => ?_)
  obtain ⟨rfl, hp⟩ := hp
  obtain ⟨⟨hmo, fm, hmf⟩, hm, ht⟩ := hm N1 f1 hp
  refine z_istore X d_law_837 (by decide) rfl ?_
  refine z_aload_n X d_law_839 rfl ?_
  refine z_aload_n X d_law_840 rfl ?_
  refine z_iload X d_law_841 rfl ?_
  refine z_iconst X d_law_843 (v := 1) (by decide) ?_
  refine z_iadd X d_law_844 ?_
  refine z_sld X hX hbl hbA d_law_845 h1 ?_
  refine z_callV (As := [.int (xs (i + 1).toNatClampNeg)]) X zG_ok hm d_law_846 ⟨(z_cb (n := 1) X.2.2.2.2.1 ml_Law_116 mc_Mod_at ini_Mod (by decide +kernel) rfl rfl ⟨(Nat.le_of_ble_eq_true rfl), (Nat.le_of_ble_eq_true rfl)⟩), X.2.2.2.2.1 _ im_Mod_at, X.2.2.2.2.1 _ sel_Mod_at⟩ hmo hmf cl_Mod rfl rfl (Nat.le_of_ble_eq_true rfl) (show cells + 1 + 0 ≤ 601024 ∧ slots + 6 + 0 ≤ 7293034 by omega) (fun r N2 f2 hp2 hN2 => ?_)
  obtain ⟨rfl, hp2⟩ := hp2
  obtain ⟨⟨hto, ft, htf⟩, ht⟩ := ht N2 f2 hp2
  refine z_istore X d_law_849 (by decide) rfl ?_
  refine z_aload_n X d_law_851 rfl ?_
  refine z_callV (As := []) X zG_ok ht d_law_852 ⟨(z_cb (n := 0) X.2.2.2.2.1 ml_Law_54 mc_Mod_thrown ini_Mod (by decide +kernel) rfl rfl ⟨(Nat.le_of_ble_eq_true rfl), (Nat.le_of_ble_eq_true rfl)⟩), X.2.2.2.2.1 _ im_Mod_thrown, X.2.2.2.2.1 _ sel_Mod_thrown⟩ hto htf cl_Mod rfl rfl (Nat.le_of_ble_eq_true rfl) (show cells + 1 + 0 + 0 ≤ 601024 ∧ slots + 6 + 0 + 0 ≤ 7293034 by omega) (fun r N3 f3 hp3 hN3 => ?_)
  obtain ⟨rfl, hls, jo, hjo, hj0⟩ := hp3
  refine z_iload X d_law_855 rfl ?_
  refine z_icmp_eq X 862 d_law_857 (by decide) (fun _ => ?_) (fun hx => absurd rfl hx)
  refine z_iload X d_law_862 rfl ?_
  refine z_if_ne X 879 d_law_864 (by decide) (fun _ => z_goto X 907 d_law_879 (by decide) (zW.loc (lv' := lwl b (A 0) (A' 38) ob i) (fun q hq => List.mem_append.mpr (Or.inl (List.mem_append.mpr (Or.inl hq)))) (zW.widen (by omega) (by omega) (kk N3 f3 hls)))) (fun h0 => ?_)
  refine z_aload_n X d_law_867 rfl ?_
  refine z_iconst X d_law_868 (v := 0) (by decide) ?_
  refine z_lald X d_law_869 ⟨hd.1, (by have q1 := hd.2.1; obtain ⟨z, μ, j9, q2, -⟩ := hls; have := q2.1; omega)⟩ hjo (t0 := 2) rfl (vp_in_nI (n := 0) (N := 1) (by decide) (by decide)) ?_
  refine z_iload X d_law_870 rfl ?_
  refine z_i2l X d_law_872 (v := ans.toInt64) rfl ?_
  refine z_lcmp X d_law_873 ?_
  exact z_if_eq X 879 d_law_874 (by decide) (fun _ => z_goto X 907 d_law_879 (by decide) (zW.loc (lv' := lwl b (A 0) (A' 38) ob i) (fun q hq => List.mem_append.mpr (Or.inl (List.mem_append.mpr (Or.inl hq)))) (zW.widen (by omega) (by omega) (kk N3 f3 hls)))) (fun hx => absurd (lg_cmp0 (hj0 h0)) hx)
set_option maxHeartbeats 2000000 in
theorem lw_c17 (X : zX p s m args meth c D zcl (zty ck) b0 (zG ad b0) code 7 "CheckRulesLaw" zTs ret) (htl : ∀ e, l.admits e → e.platform.stackTraces = false) (hX : va_X b L xs s s.heap) (hbl : b < s.heap.size) (hbA : ¬ b0 ≤ b) (hd : Ldj b0 T A A' ob) (h : Lst ck b0 T A A' ob N f) (h1 : vp_in (i + 1) L) (h2 : vp_in (i + 2) L) (h3 : vp_in (i + 3) L) (hr : cells + 5 ≤ 601024 ∧ slots + 132 ≤ 7293034) (kk : ∀ N' f', Lst ck b0 T A A' ob N' f' → zW p l e room_1 s m args below meth c D zcl b0 7 (cells + 5) (slots + 132) Q N' f' 907 (lwl b (A 0) (A' 38) ob i) []) : zW p l e room_1 s m args below meth c D zcl b0 7 cells slots Q N f 882 (lwl b (A 0) (A' 38) ob i) [] := by
  obtain ⟨hco, fs, hcf⟩ := (show (b0 ≤ A 0 ∧ A 0 < N) ∧ ∃ fs, f (A 0) = .inr (7, fs) from by obtain ⟨z, μ, jo, h0, -⟩ := h; exact h0.cobj)
  obtain ⟨ans, P, hc, hm⟩ := o_count (l := l) (D := D) (ad := ad) (w := (xs (i + 1).toNatClampNeg)) hd h
  refine z_aload_n X d_law_882 rfl ?_
  refine z_aload_n X d_law_883 rfl ?_
  refine z_iload X d_law_884 rfl ?_
  refine z_iconst X d_law_886 (v := 1) (by decide) ?_
  refine z_iadd X d_law_887 ?_
  refine z_sld X hX hbl hbA d_law_888 h1 ?_
  refine z_callV (As := [.int (xs (i + 1).toNatClampNeg)]) X zG_ok hc d_law_889 ⟨(z_cb (n := 1) X.2.2.2.2.1 ml_Law_117 mc_Cls_count ini_Cls (by decide +kernel) rfl rfl ⟨(Nat.le_of_ble_eq_true rfl), (Nat.le_of_ble_eq_true rfl)⟩), X.2.2.2.2.1 _ im_Cls_count, X.2.2.2.2.1 _ sel_Cls_count⟩ hco hcf cl_Cls rfl rfl (Nat.le_of_ble_eq_true rfl) (show cells + 0 ≤ 601024 ∧ slots + 0 ≤ 7293034 by omega) (fun r N1 f1 hp hN1 => ?_)
  obtain ⟨rfl, hp⟩ := hp
  obtain ⟨⟨hmo, fm, hmf⟩, hm⟩ := hm N1 f1 hp
  refine z_aload_n X d_law_892 rfl ?_
  refine z_aload_n X d_law_893 rfl ?_
  refine z_iload X d_law_894 rfl ?_
  refine z_iconst X d_law_896 (v := 1) (by decide) ?_
  refine z_iadd X d_law_897 ?_
  refine z_sld X hX hbl hbA d_law_898 h1 ?_
  refine z_callV (As := [.int (xs (i + 1).toNatClampNeg)]) X zG_ok hm d_law_899 ⟨(z_cb (n := 1) X.2.2.2.2.1 ml_Law_120 mc_Mod_count ini_Mod (by decide +kernel) rfl rfl ⟨(Nat.le_of_ble_eq_true rfl), (Nat.le_of_ble_eq_true rfl)⟩), X.2.2.2.2.1 _ im_Mod_count, X.2.2.2.2.1 _ sel_Mod_count⟩ hmo hmf cl_Mod rfl rfl (Nat.le_of_ble_eq_true rfl) (show cells + 0 + 0 ≤ 601024 ∧ slots + 0 + 0 ≤ 7293034 by omega) (fun r N2 f2 hp hN2 => ?_)
  obtain ⟨rfl, hp⟩ := hp
  exact z_icmp_eq X 907 d_law_902 (by decide) (fun _ => zW.widen (by omega) (by omega) (kk N2 f2 hp)) (fun hx => absurd rfl hx)
end
