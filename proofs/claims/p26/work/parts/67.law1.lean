/-! the law: its places, its words -/
theorem dL_law_0 : decode code 0 = .ok (.new 7, 3) := by decide +kernel
theorem dL_law_3 : decode code 3 = .ok (.dup, 1) := by decide +kernel
theorem dL_law_4 : decode code 4 = .ok (.invokespecial 9, 3) := by decide +kernel
theorem dL_law_7 : decode code 7 = .ok (.astore_n 1, 1) := by decide +kernel
theorem dL_law_8 : decode code 8 = .ok (.new 10, 3) := by decide +kernel
theorem dL_law_11 : decode code 11 = .ok (.dup, 1) := by decide +kernel
theorem dL_law_12 : decode code 12 = .ok (.invokespecial 12, 3) := by decide +kernel
theorem dL_law_15 : decode code 15 = .ok (.astore_n 2, 1) := by decide +kernel
theorem dL_law_16 : decode code 16 = .ok (.iconst 0, 1) := by decide +kernel
theorem dL_law_17 : decode code 17 = .ok (.istore_n 3, 1) := by decide +kernel
theorem dL_law_18 : decode code 18 = .ok (.iload_n 3, 1) := by decide +kernel
theorem dL_law_19 : decode code 19 = .ok (.aload_n 0, 1) := by decide +kernel
theorem dL_law_20 : decode code 20 = .ok (.arraylength, 1) := by decide +kernel
theorem dL_law_21 : decode code 21 = .ok (.iconst 4, 1) := by decide +kernel
theorem dL_law_22 : decode code 22 = .ok (.isub, 1) := by decide +kernel
theorem dL_law_23 : decode code 23 = .ok (.if_icmp .gt 726, 3) := by decide +kernel
theorem dL_law_26 : decode code 26 = .ok (.aload_n 0, 1) := by decide +kernel
theorem dL_law_27 : decode code 27 = .ok (.iload_n 3, 1) := by decide +kernel
theorem dL_law_28 : decode code 28 = .ok (.iaload, 1) := by decide +kernel
theorem dL_law_29 : decode code 29 = .ok (.bipush 31, 2) := by decide +kernel
theorem dL_law_31 : decode code 31 = .ok (.iand, 1) := by decide +kernel
theorem dL_law_32 : decode code 32 = .ok (.tableswitch 711 0 24 #[116, 165, 178, 191, 204, 217, 250, 273, 286, 309, 322, 335, 358, 391, 434, 457, 480, 529, 552, 601, 614, 657, 672, 685, 698], 116) := by decide +kernel
theorem dL_law_148 : decode code 148 = .ok (.aload_n 1, 1) := by decide +kernel
theorem dL_law_149 : decode code 149 = .ok (.aload_n 0, 1) := by decide +kernel
theorem dL_law_150 : decode code 150 = .ok (.iload_n 3, 1) := by decide +kernel
theorem dL_law_151 : decode code 151 = .ok (.iconst 1, 1) := by decide +kernel
theorem dL_law_152 : decode code 152 = .ok (.iadd, 1) := by decide +kernel
theorem dL_law_153 : decode code 153 = .ok (.iaload, 1) := by decide +kernel
theorem dL_law_154 : decode code 154 = .ok (.aload_n 0, 1) := by decide +kernel
theorem dL_law_155 : decode code 155 = .ok (.iload_n 3, 1) := by decide +kernel
theorem dL_law_156 : decode code 156 = .ok (.iconst 2, 1) := by decide +kernel
theorem dL_law_157 : decode code 157 = .ok (.iadd, 1) := by decide +kernel
theorem dL_law_158 : decode code 158 = .ok (.iaload, 1) := by decide +kernel
theorem dL_law_159 : decode code 159 = .ok (.ifCond .eq 7, 3) := by decide +kernel
theorem dL_law_162 : decode code 162 = .ok (.iconst 1, 1) := by decide +kernel
theorem dL_law_163 : decode code 163 = .ok (.goto 4, 3) := by decide +kernel
theorem dL_law_166 : decode code 166 = .ok (.iconst 0, 1) := by decide +kernel
theorem dL_law_167 : decode code 167 = .ok (.invokevirtual 13, 3) := by decide +kernel
theorem dL_law_170 : decode code 170 = .ok (.pop, 1) := by decide +kernel
theorem dL_law_171 : decode code 171 = .ok (.aload_n 2, 1) := by decide +kernel
theorem dL_law_172 : decode code 172 = .ok (.aload_n 0, 1) := by decide +kernel
theorem dL_law_173 : decode code 173 = .ok (.iload_n 3, 1) := by decide +kernel
theorem dL_law_174 : decode code 174 = .ok (.iconst 1, 1) := by decide +kernel
theorem dL_law_175 : decode code 175 = .ok (.iadd, 1) := by decide +kernel
theorem dL_law_176 : decode code 176 = .ok (.iaload, 1) := by decide +kernel
theorem dL_law_177 : decode code 177 = .ok (.aload_n 0, 1) := by decide +kernel
theorem dL_law_178 : decode code 178 = .ok (.iload_n 3, 1) := by decide +kernel
theorem dL_law_179 : decode code 179 = .ok (.iconst 2, 1) := by decide +kernel
theorem dL_law_180 : decode code 180 = .ok (.iadd, 1) := by decide +kernel
theorem dL_law_181 : decode code 181 = .ok (.iaload, 1) := by decide +kernel
theorem dL_law_182 : decode code 182 = .ok (.ifCond .eq 7, 3) := by decide +kernel
theorem dL_law_185 : decode code 185 = .ok (.iconst 1, 1) := by decide +kernel
theorem dL_law_186 : decode code 186 = .ok (.goto 4, 3) := by decide +kernel
theorem dL_law_189 : decode code 189 = .ok (.iconst 0, 1) := by decide +kernel
theorem dL_law_190 : decode code 190 = .ok (.invokevirtual 17, 3) := by decide +kernel
theorem dL_law_193 : decode code 193 = .ok (.pop, 1) := by decide +kernel
theorem dL_law_194 : decode code 194 = .ok (.goto 549, 3) := by decide +kernel
theorem dL_law_197 : decode code 197 = .ok (.aload_n 1, 1) := by decide +kernel
theorem dL_law_198 : decode code 198 = .ok (.invokevirtual 18, 3) := by decide +kernel
theorem dL_law_201 : decode code 201 = .ok (.pop, 1) := by decide +kernel
theorem dL_law_202 : decode code 202 = .ok (.aload_n 2, 1) := by decide +kernel
theorem dL_law_203 : decode code 203 = .ok (.invokevirtual 22, 3) := by decide +kernel
theorem dL_law_206 : decode code 206 = .ok (.pop, 1) := by decide +kernel
theorem dL_law_207 : decode code 207 = .ok (.goto 536, 3) := by decide +kernel
theorem dL_law_210 : decode code 210 = .ok (.aload_n 1, 1) := by decide +kernel
theorem dL_law_211 : decode code 211 = .ok (.invokevirtual 23, 3) := by decide +kernel
theorem dL_law_214 : decode code 214 = .ok (.pop, 1) := by decide +kernel
theorem dL_law_215 : decode code 215 = .ok (.aload_n 2, 1) := by decide +kernel
theorem dL_law_216 : decode code 216 = .ok (.invokevirtual 26, 3) := by decide +kernel
theorem dL_law_219 : decode code 219 = .ok (.pop, 1) := by decide +kernel
theorem dL_law_220 : decode code 220 = .ok (.goto 523, 3) := by decide +kernel
theorem dL_law_223 : decode code 223 = .ok (.aload_n 1, 1) := by decide +kernel
theorem dL_law_224 : decode code 224 = .ok (.invokevirtual 27, 3) := by decide +kernel
theorem dL_law_227 : decode code 227 = .ok (.pop, 1) := by decide +kernel
theorem dL_law_228 : decode code 228 = .ok (.aload_n 2, 1) := by decide +kernel
theorem dL_law_229 : decode code 229 = .ok (.invokevirtual 30, 3) := by decide +kernel
theorem dL_law_232 : decode code 232 = .ok (.pop, 1) := by decide +kernel
theorem dL_law_233 : decode code 233 = .ok (.goto 510, 3) := by decide +kernel
theorem dL_law_236 : decode code 236 = .ok (.aload_n 1, 1) := by decide +kernel
theorem dL_law_237 : decode code 237 = .ok (.invokevirtual 31, 3) := by decide +kernel
theorem dL_law_240 : decode code 240 = .ok (.pop, 1) := by decide +kernel
theorem dL_law_241 : decode code 241 = .ok (.aload_n 2, 1) := by decide +kernel
theorem dL_law_242 : decode code 242 = .ok (.invokevirtual 34, 3) := by decide +kernel
theorem dL_law_245 : decode code 245 = .ok (.pop, 1) := by decide +kernel
theorem dL_law_246 : decode code 246 = .ok (.goto 497, 3) := by decide +kernel
theorem dL_law_249 : decode code 249 = .ok (.aload_n 1, 1) := by decide +kernel
theorem dL_law_250 : decode code 250 = .ok (.aload_n 0, 1) := by decide +kernel
theorem dL_law_251 : decode code 251 = .ok (.iload_n 3, 1) := by decide +kernel
theorem dL_law_252 : decode code 252 = .ok (.iconst 1, 1) := by decide +kernel
theorem dL_law_253 : decode code 253 = .ok (.iadd, 1) := by decide +kernel
theorem dL_law_254 : decode code 254 = .ok (.iaload, 1) := by decide +kernel
theorem dL_law_255 : decode code 255 = .ok (.aload_n 0, 1) := by decide +kernel
theorem dL_law_256 : decode code 256 = .ok (.iload_n 3, 1) := by decide +kernel
theorem dL_law_257 : decode code 257 = .ok (.iconst 2, 1) := by decide +kernel
theorem dL_law_258 : decode code 258 = .ok (.iadd, 1) := by decide +kernel
theorem dL_law_259 : decode code 259 = .ok (.iaload, 1) := by decide +kernel
theorem dL_law_260 : decode code 260 = .ok (.invokevirtual 35, 3) := by decide +kernel
theorem dL_law_263 : decode code 263 = .ok (.pop, 1) := by decide +kernel
theorem dL_law_264 : decode code 264 = .ok (.aload_n 2, 1) := by decide +kernel
theorem dL_law_265 : decode code 265 = .ok (.aload_n 0, 1) := by decide +kernel
theorem dL_law_266 : decode code 266 = .ok (.iload_n 3, 1) := by decide +kernel
theorem dL_law_267 : decode code 267 = .ok (.iconst 1, 1) := by decide +kernel
theorem dL_law_268 : decode code 268 = .ok (.iadd, 1) := by decide +kernel
theorem dL_law_269 : decode code 269 = .ok (.iaload, 1) := by decide +kernel
theorem dL_law_270 : decode code 270 = .ok (.aload_n 0, 1) := by decide +kernel
theorem dL_law_271 : decode code 271 = .ok (.iload_n 3, 1) := by decide +kernel
theorem dL_law_272 : decode code 272 = .ok (.iconst 2, 1) := by decide +kernel
theorem dL_law_273 : decode code 273 = .ok (.iadd, 1) := by decide +kernel
theorem dL_law_274 : decode code 274 = .ok (.iaload, 1) := by decide +kernel
theorem dL_law_275 : decode code 275 = .ok (.invokevirtual 39, 3) := by decide +kernel
theorem dL_law_278 : decode code 278 = .ok (.pop, 1) := by decide +kernel
theorem dL_law_279 : decode code 279 = .ok (.goto 464, 3) := by decide +kernel
theorem dL_law_282 : decode code 282 = .ok (.aload_n 1, 1) := by decide +kernel
theorem dL_law_283 : decode code 283 = .ok (.aload_n 0, 1) := by decide +kernel
theorem dL_law_284 : decode code 284 = .ok (.iload_n 3, 1) := by decide +kernel
theorem dL_law_285 : decode code 285 = .ok (.iconst 1, 1) := by decide +kernel
theorem dL_law_286 : decode code 286 = .ok (.iadd, 1) := by decide +kernel
theorem dL_law_287 : decode code 287 = .ok (.iaload, 1) := by decide +kernel
theorem dL_law_288 : decode code 288 = .ok (.invokevirtual 40, 3) := by decide +kernel
theorem dL_law_291 : decode code 291 = .ok (.pop, 1) := by decide +kernel
theorem dL_law_292 : decode code 292 = .ok (.aload_n 2, 1) := by decide +kernel
theorem dL_law_293 : decode code 293 = .ok (.aload_n 0, 1) := by decide +kernel
theorem dL_law_294 : decode code 294 = .ok (.iload_n 3, 1) := by decide +kernel
theorem dL_law_295 : decode code 295 = .ok (.iconst 1, 1) := by decide +kernel
theorem dL_law_296 : decode code 296 = .ok (.iadd, 1) := by decide +kernel
theorem dL_law_297 : decode code 297 = .ok (.iaload, 1) := by decide +kernel
theorem dL_law_298 : decode code 298 = .ok (.invokevirtual 44, 3) := by decide +kernel
theorem dL_law_301 : decode code 301 = .ok (.pop, 1) := by decide +kernel
theorem dL_law_302 : decode code 302 = .ok (.goto 441, 3) := by decide +kernel
theorem dL_law_305 : decode code 305 = .ok (.aload_n 1, 1) := by decide +kernel
theorem dL_law_306 : decode code 306 = .ok (.invokevirtual 45, 3) := by decide +kernel
theorem dL_law_309 : decode code 309 = .ok (.pop, 1) := by decide +kernel
theorem dL_law_310 : decode code 310 = .ok (.aload_n 2, 1) := by decide +kernel
theorem dL_law_311 : decode code 311 = .ok (.invokevirtual 48, 3) := by decide +kernel
theorem dL_law_314 : decode code 314 = .ok (.pop, 1) := by decide +kernel
theorem dL_law_315 : decode code 315 = .ok (.goto 428, 3) := by decide +kernel
theorem dL_law_318 : decode code 318 = .ok (.aload_n 1, 1) := by decide +kernel
theorem dL_law_319 : decode code 319 = .ok (.aload_n 0, 1) := by decide +kernel
theorem dL_law_320 : decode code 320 = .ok (.iload_n 3, 1) := by decide +kernel
theorem dL_law_321 : decode code 321 = .ok (.iconst 1, 1) := by decide +kernel
theorem dL_law_322 : decode code 322 = .ok (.iadd, 1) := by decide +kernel
theorem dL_law_323 : decode code 323 = .ok (.iaload, 1) := by decide +kernel
theorem dL_law_324 : decode code 324 = .ok (.invokevirtual 49, 3) := by decide +kernel
theorem dL_law_327 : decode code 327 = .ok (.pop, 1) := by decide +kernel
theorem dL_law_328 : decode code 328 = .ok (.aload_n 2, 1) := by decide +kernel
theorem dL_law_329 : decode code 329 = .ok (.aload_n 0, 1) := by decide +kernel
theorem dL_law_330 : decode code 330 = .ok (.iload_n 3, 1) := by decide +kernel
theorem dL_law_331 : decode code 331 = .ok (.iconst 1, 1) := by decide +kernel
theorem dL_law_332 : decode code 332 = .ok (.iadd, 1) := by decide +kernel
theorem dL_law_333 : decode code 333 = .ok (.iaload, 1) := by decide +kernel
theorem dL_law_334 : decode code 334 = .ok (.invokevirtual 52, 3) := by decide +kernel
theorem dL_law_337 : decode code 337 = .ok (.pop, 1) := by decide +kernel
theorem dL_law_338 : decode code 338 = .ok (.goto 405, 3) := by decide +kernel
theorem dL_law_341 : decode code 341 = .ok (.aload_n 1, 1) := by decide +kernel
theorem dL_law_342 : decode code 342 = .ok (.invokevirtual 53, 3) := by decide +kernel
theorem dL_law_345 : decode code 345 = .ok (.pop, 1) := by decide +kernel
theorem dL_law_346 : decode code 346 = .ok (.aload_n 2, 1) := by decide +kernel
theorem dL_law_347 : decode code 347 = .ok (.invokevirtual 56, 3) := by decide +kernel
theorem dL_law_350 : decode code 350 = .ok (.pop, 1) := by decide +kernel
theorem dL_law_351 : decode code 351 = .ok (.goto 392, 3) := by decide +kernel
theorem dL_law_354 : decode code 354 = .ok (.aload_n 1, 1) := by decide +kernel
theorem dL_law_355 : decode code 355 = .ok (.invokevirtual 57, 3) := by decide +kernel
theorem dL_law_358 : decode code 358 = .ok (.pop, 1) := by decide +kernel
theorem dL_law_359 : decode code 359 = .ok (.aload_n 2, 1) := by decide +kernel
theorem dL_law_360 : decode code 360 = .ok (.invokevirtual 60, 3) := by decide +kernel
theorem dL_law_363 : decode code 363 = .ok (.pop, 1) := by decide +kernel
theorem dL_law_364 : decode code 364 = .ok (.goto 379, 3) := by decide +kernel
theorem dL_law_367 : decode code 367 = .ok (.aload_n 1, 1) := by decide +kernel
theorem dL_law_368 : decode code 368 = .ok (.aload_n 0, 1) := by decide +kernel
theorem dL_law_369 : decode code 369 = .ok (.iload_n 3, 1) := by decide +kernel
theorem dL_law_370 : decode code 370 = .ok (.iconst 1, 1) := by decide +kernel
theorem dL_law_371 : decode code 371 = .ok (.iadd, 1) := by decide +kernel
theorem dL_law_372 : decode code 372 = .ok (.iaload, 1) := by decide +kernel
theorem dL_law_373 : decode code 373 = .ok (.invokevirtual 61, 3) := by decide +kernel
theorem dL_law_376 : decode code 376 = .ok (.pop, 1) := by decide +kernel
theorem dL_law_377 : decode code 377 = .ok (.aload_n 2, 1) := by decide +kernel
theorem dL_law_378 : decode code 378 = .ok (.aload_n 0, 1) := by decide +kernel
theorem dL_law_379 : decode code 379 = .ok (.iload_n 3, 1) := by decide +kernel
theorem dL_law_380 : decode code 380 = .ok (.iconst 1, 1) := by decide +kernel
theorem dL_law_381 : decode code 381 = .ok (.iadd, 1) := by decide +kernel
theorem dL_law_382 : decode code 382 = .ok (.iaload, 1) := by decide +kernel
theorem dL_law_383 : decode code 383 = .ok (.invokevirtual 64, 3) := by decide +kernel
theorem dL_law_386 : decode code 386 = .ok (.pop, 1) := by decide +kernel
theorem dL_law_387 : decode code 387 = .ok (.goto 356, 3) := by decide +kernel
theorem dL_law_390 : decode code 390 = .ok (.aload_n 1, 1) := by decide +kernel
theorem dL_law_391 : decode code 391 = .ok (.aload_n 0, 1) := by decide +kernel
theorem dL_law_392 : decode code 392 = .ok (.iload_n 3, 1) := by decide +kernel
theorem dL_law_393 : decode code 393 = .ok (.iconst 1, 1) := by decide +kernel
theorem dL_law_394 : decode code 394 = .ok (.iadd, 1) := by decide +kernel
theorem dL_law_395 : decode code 395 = .ok (.iaload, 1) := by decide +kernel
theorem dL_law_396 : decode code 396 = .ok (.aload_n 0, 1) := by decide +kernel
theorem dL_law_397 : decode code 397 = .ok (.iload_n 3, 1) := by decide +kernel
theorem dL_law_398 : decode code 398 = .ok (.iconst 2, 1) := by decide +kernel
theorem dL_law_399 : decode code 399 = .ok (.iadd, 1) := by decide +kernel
theorem dL_law_400 : decode code 400 = .ok (.iaload, 1) := by decide +kernel
theorem dL_law_401 : decode code 401 = .ok (.invokevirtual 65, 3) := by decide +kernel
theorem dL_law_404 : decode code 404 = .ok (.pop, 1) := by decide +kernel
theorem dL_law_405 : decode code 405 = .ok (.aload_n 2, 1) := by decide +kernel
theorem dL_law_406 : decode code 406 = .ok (.aload_n 0, 1) := by decide +kernel
theorem dL_law_407 : decode code 407 = .ok (.iload_n 3, 1) := by decide +kernel
theorem dL_law_408 : decode code 408 = .ok (.iconst 1, 1) := by decide +kernel
theorem dL_law_409 : decode code 409 = .ok (.iadd, 1) := by decide +kernel
theorem dL_law_410 : decode code 410 = .ok (.iaload, 1) := by decide +kernel
theorem dL_law_411 : decode code 411 = .ok (.aload_n 0, 1) := by decide +kernel
theorem dL_law_412 : decode code 412 = .ok (.iload_n 3, 1) := by decide +kernel
theorem dL_law_413 : decode code 413 = .ok (.iconst 2, 1) := by decide +kernel
theorem dL_law_414 : decode code 414 = .ok (.iadd, 1) := by decide +kernel
theorem dL_law_415 : decode code 415 = .ok (.iaload, 1) := by decide +kernel
theorem dL_law_416 : decode code 416 = .ok (.invokevirtual 68, 3) := by decide +kernel
theorem dL_law_419 : decode code 419 = .ok (.pop, 1) := by decide +kernel
theorem dL_law_420 : decode code 420 = .ok (.goto 323, 3) := by decide +kernel
theorem dL_law_423 : decode code 423 = .ok (.aload_n 1, 1) := by decide +kernel
theorem dL_law_424 : decode code 424 = .ok (.aload_n 0, 1) := by decide +kernel
theorem dL_law_425 : decode code 425 = .ok (.iload_n 3, 1) := by decide +kernel
theorem dL_law_426 : decode code 426 = .ok (.iconst 1, 1) := by decide +kernel
theorem dL_law_427 : decode code 427 = .ok (.iadd, 1) := by decide +kernel
theorem dL_law_428 : decode code 428 = .ok (.iaload, 1) := by decide +kernel
theorem dL_law_429 : decode code 429 = .ok (.aload_n 0, 1) := by decide +kernel
theorem dL_law_430 : decode code 430 = .ok (.iload_n 3, 1) := by decide +kernel
theorem dL_law_431 : decode code 431 = .ok (.iconst 2, 1) := by decide +kernel
theorem dL_law_432 : decode code 432 = .ok (.iadd, 1) := by decide +kernel
theorem dL_law_433 : decode code 433 = .ok (.iaload, 1) := by decide +kernel
theorem dL_law_434 : decode code 434 = .ok (.aload_n 0, 1) := by decide +kernel
theorem dL_law_435 : decode code 435 = .ok (.iload_n 3, 1) := by decide +kernel
theorem dL_law_436 : decode code 436 = .ok (.iconst 3, 1) := by decide +kernel
theorem dL_law_437 : decode code 437 = .ok (.iadd, 1) := by decide +kernel
theorem dL_law_438 : decode code 438 = .ok (.iaload, 1) := by decide +kernel
theorem dL_law_439 : decode code 439 = .ok (.invokevirtual 69, 3) := by decide +kernel
theorem dL_law_442 : decode code 442 = .ok (.pop, 1) := by decide +kernel
theorem dL_law_443 : decode code 443 = .ok (.aload_n 2, 1) := by decide +kernel
theorem dL_law_444 : decode code 444 = .ok (.aload_n 0, 1) := by decide +kernel
theorem dL_law_445 : decode code 445 = .ok (.iload_n 3, 1) := by decide +kernel
theorem dL_law_446 : decode code 446 = .ok (.iconst 1, 1) := by decide +kernel
theorem dL_law_447 : decode code 447 = .ok (.iadd, 1) := by decide +kernel
theorem dL_law_448 : decode code 448 = .ok (.iaload, 1) := by decide +kernel
theorem dL_law_449 : decode code 449 = .ok (.aload_n 0, 1) := by decide +kernel
theorem dL_law_450 : decode code 450 = .ok (.iload_n 3, 1) := by decide +kernel
theorem dL_law_451 : decode code 451 = .ok (.iconst 2, 1) := by decide +kernel
theorem dL_law_452 : decode code 452 = .ok (.iadd, 1) := by decide +kernel
theorem dL_law_453 : decode code 453 = .ok (.iaload, 1) := by decide +kernel
theorem dL_law_454 : decode code 454 = .ok (.aload_n 0, 1) := by decide +kernel
theorem dL_law_455 : decode code 455 = .ok (.iload_n 3, 1) := by decide +kernel
theorem dL_law_456 : decode code 456 = .ok (.iconst 3, 1) := by decide +kernel
theorem dL_law_457 : decode code 457 = .ok (.iadd, 1) := by decide +kernel
theorem dL_law_458 : decode code 458 = .ok (.iaload, 1) := by decide +kernel
theorem dL_law_459 : decode code 459 = .ok (.invokevirtual 73, 3) := by decide +kernel
theorem dL_law_462 : decode code 462 = .ok (.pop, 1) := by decide +kernel
theorem dL_law_463 : decode code 463 = .ok (.goto 280, 3) := by decide +kernel
theorem dL_law_466 : decode code 466 = .ok (.aload_n 1, 1) := by decide +kernel
theorem dL_law_467 : decode code 467 = .ok (.aload_n 0, 1) := by decide +kernel
theorem dL_law_468 : decode code 468 = .ok (.iload_n 3, 1) := by decide +kernel
theorem dL_law_469 : decode code 469 = .ok (.iconst 1, 1) := by decide +kernel
theorem dL_law_470 : decode code 470 = .ok (.iadd, 1) := by decide +kernel
theorem dL_law_471 : decode code 471 = .ok (.iaload, 1) := by decide +kernel
theorem dL_law_472 : decode code 472 = .ok (.invokevirtual 74, 3) := by decide +kernel
theorem dL_law_475 : decode code 475 = .ok (.pop, 1) := by decide +kernel
theorem dL_law_476 : decode code 476 = .ok (.aload_n 2, 1) := by decide +kernel
theorem dL_law_477 : decode code 477 = .ok (.aload_n 0, 1) := by decide +kernel
theorem dL_law_478 : decode code 478 = .ok (.iload_n 3, 1) := by decide +kernel
theorem dL_law_479 : decode code 479 = .ok (.iconst 1, 1) := by decide +kernel
theorem dL_law_480 : decode code 480 = .ok (.iadd, 1) := by decide +kernel
theorem dL_law_481 : decode code 481 = .ok (.iaload, 1) := by decide +kernel
theorem dL_law_482 : decode code 482 = .ok (.invokevirtual 77, 3) := by decide +kernel
theorem dL_law_485 : decode code 485 = .ok (.pop, 1) := by decide +kernel
theorem dL_law_486 : decode code 486 = .ok (.goto 257, 3) := by decide +kernel
theorem dL_law_489 : decode code 489 = .ok (.aload_n 1, 1) := by decide +kernel
theorem dL_law_490 : decode code 490 = .ok (.aload_n 0, 1) := by decide +kernel
theorem dL_law_491 : decode code 491 = .ok (.iload_n 3, 1) := by decide +kernel
theorem dL_law_492 : decode code 492 = .ok (.iconst 1, 1) := by decide +kernel
theorem dL_law_493 : decode code 493 = .ok (.iadd, 1) := by decide +kernel
theorem dL_law_494 : decode code 494 = .ok (.iaload, 1) := by decide +kernel
theorem dL_law_495 : decode code 495 = .ok (.invokevirtual 78, 3) := by decide +kernel
theorem dL_law_498 : decode code 498 = .ok (.pop, 1) := by decide +kernel
theorem dL_law_499 : decode code 499 = .ok (.aload_n 2, 1) := by decide +kernel
theorem dL_law_500 : decode code 500 = .ok (.aload_n 0, 1) := by decide +kernel
theorem dL_law_501 : decode code 501 = .ok (.iload_n 3, 1) := by decide +kernel
theorem dL_law_502 : decode code 502 = .ok (.iconst 1, 1) := by decide +kernel
theorem dL_law_503 : decode code 503 = .ok (.iadd, 1) := by decide +kernel
theorem dL_law_504 : decode code 504 = .ok (.iaload, 1) := by decide +kernel
theorem dL_law_505 : decode code 505 = .ok (.invokevirtual 81, 3) := by decide +kernel
theorem dL_law_508 : decode code 508 = .ok (.pop, 1) := by decide +kernel
theorem dL_law_509 : decode code 509 = .ok (.goto 234, 3) := by decide +kernel
theorem dL_law_512 : decode code 512 = .ok (.aload_n 1, 1) := by decide +kernel
theorem dL_law_513 : decode code 513 = .ok (.aload_n 0, 1) := by decide +kernel
theorem dL_law_514 : decode code 514 = .ok (.iload_n 3, 1) := by decide +kernel
theorem dL_law_515 : decode code 515 = .ok (.iconst 1, 1) := by decide +kernel
theorem dL_law_516 : decode code 516 = .ok (.iadd, 1) := by decide +kernel
theorem dL_law_517 : decode code 517 = .ok (.iaload, 1) := by decide +kernel
theorem dL_law_518 : decode code 518 = .ok (.aload_n 0, 1) := by decide +kernel
theorem dL_law_519 : decode code 519 = .ok (.iload_n 3, 1) := by decide +kernel
theorem dL_law_520 : decode code 520 = .ok (.iconst 2, 1) := by decide +kernel
theorem dL_law_521 : decode code 521 = .ok (.iadd, 1) := by decide +kernel
theorem dL_law_522 : decode code 522 = .ok (.iaload, 1) := by decide +kernel
theorem dL_law_523 : decode code 523 = .ok (.ifCond .eq 7, 3) := by decide +kernel
theorem dL_law_526 : decode code 526 = .ok (.iconst 1, 1) := by decide +kernel
theorem dL_law_527 : decode code 527 = .ok (.goto 4, 3) := by decide +kernel
theorem dL_law_530 : decode code 530 = .ok (.iconst 0, 1) := by decide +kernel
theorem dL_law_531 : decode code 531 = .ok (.invokevirtual 82, 3) := by decide +kernel
theorem dL_law_534 : decode code 534 = .ok (.pop, 1) := by decide +kernel
theorem dL_law_535 : decode code 535 = .ok (.aload_n 2, 1) := by decide +kernel
theorem dL_law_536 : decode code 536 = .ok (.aload_n 0, 1) := by decide +kernel
theorem dL_law_537 : decode code 537 = .ok (.iload_n 3, 1) := by decide +kernel
theorem dL_law_538 : decode code 538 = .ok (.iconst 1, 1) := by decide +kernel
theorem dL_law_539 : decode code 539 = .ok (.iadd, 1) := by decide +kernel
theorem dL_law_540 : decode code 540 = .ok (.iaload, 1) := by decide +kernel
theorem dL_law_541 : decode code 541 = .ok (.aload_n 0, 1) := by decide +kernel
theorem dL_law_542 : decode code 542 = .ok (.iload_n 3, 1) := by decide +kernel
theorem dL_law_543 : decode code 543 = .ok (.iconst 2, 1) := by decide +kernel
theorem dL_law_544 : decode code 544 = .ok (.iadd, 1) := by decide +kernel
theorem dL_law_545 : decode code 545 = .ok (.iaload, 1) := by decide +kernel
theorem dL_law_546 : decode code 546 = .ok (.ifCond .eq 7, 3) := by decide +kernel
theorem dL_law_549 : decode code 549 = .ok (.iconst 1, 1) := by decide +kernel
theorem dL_law_550 : decode code 550 = .ok (.goto 4, 3) := by decide +kernel
theorem dL_law_553 : decode code 553 = .ok (.iconst 0, 1) := by decide +kernel
theorem dL_law_554 : decode code 554 = .ok (.invokevirtual 85, 3) := by decide +kernel
theorem dL_law_557 : decode code 557 = .ok (.pop, 1) := by decide +kernel
theorem dL_law_558 : decode code 558 = .ok (.goto 185, 3) := by decide +kernel
theorem dL_law_561 : decode code 561 = .ok (.aload_n 1, 1) := by decide +kernel
theorem dL_law_562 : decode code 562 = .ok (.aload_n 0, 1) := by decide +kernel
theorem dL_law_563 : decode code 563 = .ok (.iload_n 3, 1) := by decide +kernel
theorem dL_law_564 : decode code 564 = .ok (.iconst 1, 1) := by decide +kernel
theorem dL_law_565 : decode code 565 = .ok (.iadd, 1) := by decide +kernel
theorem dL_law_566 : decode code 566 = .ok (.iaload, 1) := by decide +kernel
theorem dL_law_567 : decode code 567 = .ok (.invokevirtual 86, 3) := by decide +kernel
theorem dL_law_570 : decode code 570 = .ok (.pop, 1) := by decide +kernel
theorem dL_law_571 : decode code 571 = .ok (.aload_n 2, 1) := by decide +kernel
theorem dL_law_572 : decode code 572 = .ok (.aload_n 0, 1) := by decide +kernel
theorem dL_law_573 : decode code 573 = .ok (.iload_n 3, 1) := by decide +kernel
theorem dL_law_574 : decode code 574 = .ok (.iconst 1, 1) := by decide +kernel
theorem dL_law_575 : decode code 575 = .ok (.iadd, 1) := by decide +kernel
theorem dL_law_576 : decode code 576 = .ok (.iaload, 1) := by decide +kernel
theorem dL_law_577 : decode code 577 = .ok (.invokevirtual 89, 3) := by decide +kernel
theorem dL_law_580 : decode code 580 = .ok (.pop, 1) := by decide +kernel
theorem dL_law_581 : decode code 581 = .ok (.goto 162, 3) := by decide +kernel
theorem dL_law_584 : decode code 584 = .ok (.aload_n 1, 1) := by decide +kernel
theorem dL_law_585 : decode code 585 = .ok (.aload_n 0, 1) := by decide +kernel
theorem dL_law_586 : decode code 586 = .ok (.iload_n 3, 1) := by decide +kernel
theorem dL_law_587 : decode code 587 = .ok (.iconst 1, 1) := by decide +kernel
theorem dL_law_588 : decode code 588 = .ok (.iadd, 1) := by decide +kernel
theorem dL_law_589 : decode code 589 = .ok (.iaload, 1) := by decide +kernel
theorem dL_law_590 : decode code 590 = .ok (.aload_n 0, 1) := by decide +kernel
theorem dL_law_591 : decode code 591 = .ok (.iload_n 3, 1) := by decide +kernel
theorem dL_law_592 : decode code 592 = .ok (.iconst 2, 1) := by decide +kernel
theorem dL_law_593 : decode code 593 = .ok (.iadd, 1) := by decide +kernel
theorem dL_law_594 : decode code 594 = .ok (.iaload, 1) := by decide +kernel
theorem dL_law_595 : decode code 595 = .ok (.ifCond .eq 7, 3) := by decide +kernel
theorem dL_law_598 : decode code 598 = .ok (.iconst 1, 1) := by decide +kernel
theorem dL_law_599 : decode code 599 = .ok (.goto 4, 3) := by decide +kernel
theorem dL_law_602 : decode code 602 = .ok (.iconst 0, 1) := by decide +kernel
theorem dL_law_603 : decode code 603 = .ok (.invokevirtual 90, 3) := by decide +kernel
theorem dL_law_606 : decode code 606 = .ok (.pop, 1) := by decide +kernel
theorem dL_law_607 : decode code 607 = .ok (.aload_n 2, 1) := by decide +kernel
theorem dL_law_608 : decode code 608 = .ok (.aload_n 0, 1) := by decide +kernel
theorem dL_law_609 : decode code 609 = .ok (.iload_n 3, 1) := by decide +kernel
theorem dL_law_610 : decode code 610 = .ok (.iconst 1, 1) := by decide +kernel
theorem dL_law_611 : decode code 611 = .ok (.iadd, 1) := by decide +kernel
theorem dL_law_612 : decode code 612 = .ok (.iaload, 1) := by decide +kernel
theorem dL_law_613 : decode code 613 = .ok (.aload_n 0, 1) := by decide +kernel
theorem dL_law_614 : decode code 614 = .ok (.iload_n 3, 1) := by decide +kernel
theorem dL_law_615 : decode code 615 = .ok (.iconst 2, 1) := by decide +kernel
theorem dL_law_616 : decode code 616 = .ok (.iadd, 1) := by decide +kernel
theorem dL_law_617 : decode code 617 = .ok (.iaload, 1) := by decide +kernel
theorem dL_law_618 : decode code 618 = .ok (.ifCond .eq 7, 3) := by decide +kernel
theorem dL_law_621 : decode code 621 = .ok (.iconst 1, 1) := by decide +kernel
theorem dL_law_622 : decode code 622 = .ok (.goto 4, 3) := by decide +kernel
theorem dL_law_625 : decode code 625 = .ok (.iconst 0, 1) := by decide +kernel
theorem dL_law_626 : decode code 626 = .ok (.invokevirtual 93, 3) := by decide +kernel
theorem dL_law_629 : decode code 629 = .ok (.pop, 1) := by decide +kernel
theorem dL_law_630 : decode code 630 = .ok (.goto 113, 3) := by decide +kernel
theorem dL_law_633 : decode code 633 = .ok (.aload_n 1, 1) := by decide +kernel
theorem dL_law_634 : decode code 634 = .ok (.invokevirtual 94, 3) := by decide +kernel
theorem dL_law_637 : decode code 637 = .ok (.pop, 1) := by decide +kernel
theorem dL_law_638 : decode code 638 = .ok (.aload_n 2, 1) := by decide +kernel
theorem dL_law_639 : decode code 639 = .ok (.invokevirtual 97, 3) := by decide +kernel
theorem dL_law_642 : decode code 642 = .ok (.pop, 1) := by decide +kernel
theorem dL_law_643 : decode code 643 = .ok (.goto 100, 3) := by decide +kernel
theorem dL_law_646 : decode code 646 = .ok (.aload_n 1, 1) := by decide +kernel
theorem dL_law_647 : decode code 647 = .ok (.aload_n 0, 1) := by decide +kernel
theorem dL_law_648 : decode code 648 = .ok (.iload_n 3, 1) := by decide +kernel
theorem dL_law_649 : decode code 649 = .ok (.iconst 1, 1) := by decide +kernel
theorem dL_law_650 : decode code 650 = .ok (.iadd, 1) := by decide +kernel
theorem dL_law_651 : decode code 651 = .ok (.iaload, 1) := by decide +kernel
theorem dL_law_652 : decode code 652 = .ok (.aload_n 0, 1) := by decide +kernel
theorem dL_law_653 : decode code 653 = .ok (.iload_n 3, 1) := by decide +kernel
theorem dL_law_654 : decode code 654 = .ok (.iconst 2, 1) := by decide +kernel
theorem dL_law_655 : decode code 655 = .ok (.iadd, 1) := by decide +kernel
theorem dL_law_656 : decode code 656 = .ok (.iaload, 1) := by decide +kernel
theorem dL_law_657 : decode code 657 = .ok (.aload_n 0, 1) := by decide +kernel
theorem dL_law_658 : decode code 658 = .ok (.iload_n 3, 1) := by decide +kernel
theorem dL_law_659 : decode code 659 = .ok (.iconst 3, 1) := by decide +kernel
theorem dL_law_660 : decode code 660 = .ok (.iadd, 1) := by decide +kernel
theorem dL_law_661 : decode code 661 = .ok (.iaload, 1) := by decide +kernel
theorem dL_law_662 : decode code 662 = .ok (.invokevirtual 98, 3) := by decide +kernel
theorem dL_law_665 : decode code 665 = .ok (.pop, 1) := by decide +kernel
theorem dL_law_666 : decode code 666 = .ok (.aload_n 2, 1) := by decide +kernel
theorem dL_law_667 : decode code 667 = .ok (.aload_n 0, 1) := by decide +kernel
theorem dL_law_668 : decode code 668 = .ok (.iload_n 3, 1) := by decide +kernel
theorem dL_law_669 : decode code 669 = .ok (.iconst 1, 1) := by decide +kernel
theorem dL_law_670 : decode code 670 = .ok (.iadd, 1) := by decide +kernel
theorem dL_law_671 : decode code 671 = .ok (.iaload, 1) := by decide +kernel
theorem dL_law_672 : decode code 672 = .ok (.aload_n 0, 1) := by decide +kernel
theorem dL_law_673 : decode code 673 = .ok (.iload_n 3, 1) := by decide +kernel
theorem dL_law_674 : decode code 674 = .ok (.iconst 2, 1) := by decide +kernel
theorem dL_law_675 : decode code 675 = .ok (.iadd, 1) := by decide +kernel
theorem dL_law_676 : decode code 676 = .ok (.iaload, 1) := by decide +kernel
theorem dL_law_677 : decode code 677 = .ok (.aload_n 0, 1) := by decide +kernel
theorem dL_law_678 : decode code 678 = .ok (.iload_n 3, 1) := by decide +kernel
theorem dL_law_679 : decode code 679 = .ok (.iconst 3, 1) := by decide +kernel
theorem dL_law_680 : decode code 680 = .ok (.iadd, 1) := by decide +kernel
theorem dL_law_681 : decode code 681 = .ok (.iaload, 1) := by decide +kernel
theorem dL_law_682 : decode code 682 = .ok (.invokevirtual 101, 3) := by decide +kernel
theorem dL_law_685 : decode code 685 = .ok (.pop, 1) := by decide +kernel
theorem dL_law_686 : decode code 686 = .ok (.goto 57, 3) := by decide +kernel
theorem dL_law_689 : decode code 689 = .ok (.aload_n 1, 1) := by decide +kernel
theorem dL_law_690 : decode code 690 = .ok (.invokevirtual 102, 3) := by decide +kernel
theorem dL_law_693 : decode code 693 = .ok (.dstore 4, 2) := by decide +kernel
theorem dL_law_695 : decode code 695 = .ok (.aload_n 2, 1) := by decide +kernel
theorem dL_law_696 : decode code 696 = .ok (.invokevirtual 106, 3) := by decide +kernel
theorem dL_law_699 : decode code 699 = .ok (.dstore 6, 2) := by decide +kernel
theorem dL_law_701 : decode code 701 = .ok (.goto 42, 3) := by decide +kernel
theorem dL_law_704 : decode code 704 = .ok (.aload_n 1, 1) := by decide +kernel
theorem dL_law_705 : decode code 705 = .ok (.invokevirtual 107, 3) := by decide +kernel
theorem dL_law_708 : decode code 708 = .ok (.pop, 1) := by decide +kernel
theorem dL_law_709 : decode code 709 = .ok (.aload_n 2, 1) := by decide +kernel
theorem dL_law_710 : decode code 710 = .ok (.invokevirtual 110, 3) := by decide +kernel
theorem dL_law_713 : decode code 713 = .ok (.pop, 1) := by decide +kernel
theorem dL_law_714 : decode code 714 = .ok (.goto 29, 3) := by decide +kernel
theorem dL_law_717 : decode code 717 = .ok (.aload_n 1, 1) := by decide +kernel
theorem dL_law_718 : decode code 718 = .ok (.invokevirtual 111, 3) := by decide +kernel
theorem dL_law_721 : decode code 721 = .ok (.pop, 1) := by decide +kernel
theorem dL_law_722 : decode code 722 = .ok (.aload_n 2, 1) := by decide +kernel
theorem dL_law_723 : decode code 723 = .ok (.invokevirtual 114, 3) := by decide +kernel
theorem dL_law_726 : decode code 726 = .ok (.pop, 1) := by decide +kernel
theorem dL_law_727 : decode code 727 = .ok (.goto 16, 3) := by decide +kernel
theorem dL_law_730 : decode code 730 = .ok (.aload_n 1, 1) := by decide +kernel
theorem dL_law_731 : decode code 731 = .ok (.invokevirtual 115, 3) := by decide +kernel
theorem dL_law_734 : decode code 734 = .ok (.aload_n 2, 1) := by decide +kernel
theorem dL_law_735 : decode code 735 = .ok (.invokevirtual 118, 3) := by decide +kernel
theorem dL_law_738 : decode code 738 = .ok (.if_icmp .eq 5, 3) := by decide +kernel
theorem dL_law_741 : decode code 741 = .ok (.iconst 0, 1) := by decide +kernel
theorem dL_law_742 : decode code 742 = .ok (.ireturn, 1) := by decide +kernel
theorem dL_law_743 : decode code 743 = .ok (.iinc 3 4, 3) := by decide +kernel
theorem dL_law_746 : decode code 746 = .ok (.goto (-728), 3) := by decide +kernel
theorem dL_law_749 : decode code 749 = .ok (.iconst 1, 1) := by decide +kernel
theorem dL_law_750 : decode code 750 = .ok (.ireturn, 1) := by decide +kernel
theorem lc_7 : Cond.classLink R_law 7 (qzRs 2) ∈ qzWs := qzWs_in 62 (by decide +kernel) rfl
theorem lk_9 : Cond.methodLink R_law 9 (qzMd 24).1 ∈ qzWs := qzWs_in 64 (by decide +kernel) rfl
theorem lk_13 : Cond.methodLink R_law 13 (qzMd 25).1 ∈ qzWs := qzWs_in 233 (by decide +kernel) rfl
theorem lk_18 : Cond.methodLink R_law 18 (qzMd 26).1 ∈ qzWs := qzWs_in 317 (by decide +kernel) rfl
theorem lk_23 : Cond.methodLink R_law 23 (qzMd 27).1 ∈ qzWs := qzWs_in 377 (by decide +kernel) rfl
theorem lk_27 : Cond.methodLink R_law 27 (qzMd 28).1 ∈ qzWs := qzWs_in 381 (by decide +kernel) rfl
theorem lk_31 : Cond.methodLink R_law 31 (qzMd 29).1 ∈ qzWs := qzWs_in 389 (by decide +kernel) rfl
theorem lk_35 : Cond.methodLink R_law 35 (qzMd 30).1 ∈ qzWs := qzWs_in 397 (by decide +kernel) rfl
theorem lk_40 : Cond.methodLink R_law 40 (qzMd 31).1 ∈ qzWs := qzWs_in 406 (by decide +kernel) rfl
theorem lk_45 : Cond.methodLink R_law 45 (qzMd 32).1 ∈ qzWs := qzWs_in 410 (by decide +kernel) rfl
theorem lk_49 : Cond.methodLink R_law 49 (qzMd 33).1 ∈ qzWs := qzWs_in 414 (by decide +kernel) rfl
theorem lk_53 : Cond.methodLink R_law 53 (qzMd 34).1 ∈ qzWs := qzWs_in 449 (by decide +kernel) rfl
theorem lk_57 : Cond.methodLink R_law 57 (qzMd 35).1 ∈ qzWs := qzWs_in 461 (by decide +kernel) rfl
theorem lk_61 : Cond.methodLink R_law 61 (qzMd 36).1 ∈ qzWs := qzWs_in 469 (by decide +kernel) rfl
theorem lk_65 : Cond.methodLink R_law 65 (qzMd 37).1 ∈ qzWs := qzWs_in 473 (by decide +kernel) rfl
theorem lk_69 : Cond.methodLink R_law 69 (qzMd 38).1 ∈ qzWs := qzWs_in 489 (by decide +kernel) rfl
theorem lk_74 : Cond.methodLink R_law 74 (qzMd 39).1 ∈ qzWs := qzWs_in 493 (by decide +kernel) rfl
theorem lk_78 : Cond.methodLink R_law 78 (qzMd 40).1 ∈ qzWs := qzWs_in 519 (by decide +kernel) rfl
theorem lk_82 : Cond.methodLink R_law 82 (qzMd 41).1 ∈ qzWs := qzWs_in 524 (by decide +kernel) rfl
theorem lk_86 : Cond.methodLink R_law 86 (qzMd 42).1 ∈ qzWs := qzWs_in 528 (by decide +kernel) rfl
theorem lk_90 : Cond.methodLink R_law 90 (qzMd 43).1 ∈ qzWs := qzWs_in 546 (by decide +kernel) rfl
theorem lk_94 : Cond.methodLink R_law 94 (qzMd 44).1 ∈ qzWs := qzWs_in 554 (by decide +kernel) rfl
theorem lk_98 : Cond.methodLink R_law 98 (qzMd 45).1 ∈ qzWs := qzWs_in 558 (by decide +kernel) rfl
theorem lk_102 : Cond.methodLink R_law 102 (qzMd 46).1 ∈ qzWs := qzWs_in 562 (by decide +kernel) rfl
theorem lk_107 : Cond.methodLink R_law 107 (qzMd 47).1 ∈ qzWs := qzWs_in 566 (by decide +kernel) rfl
theorem lk_111 : Cond.methodLink R_law 111 (qzMd 48).1 ∈ qzWs := qzWs_in 570 (by decide +kernel) rfl
theorem lk_115 : Cond.methodLink R_law 115 (qzMd 49).1 ∈ qzWs := qzWs_in 574 (by decide +kernel) rfl
theorem lc_10 : Cond.classLink R_law 10 (qzRs 3) ∈ qzWs := qzWs_in 578 (by decide +kernel) rfl
theorem lk_12 : Cond.methodLink R_law 12 (qzMd 86).1 ∈ qzWs := qzWs_in 580 (by decide +kernel) rfl
theorem lk_17 : Cond.methodLink R_law 17 (qzMd 110).1 ∈ qzWs := qzWs_in 631 (by decide +kernel) rfl
theorem lk_22 : Cond.methodLink R_law 22 (qzMd 111).1 ∈ qzWs := qzWs_in 676 (by decide +kernel) rfl
theorem lk_26 : Cond.methodLink R_law 26 (qzMd 112).1 ∈ qzWs := qzWs_in 723 (by decide +kernel) rfl
theorem lk_30 : Cond.methodLink R_law 30 (qzMd 113).1 ∈ qzWs := qzWs_in 727 (by decide +kernel) rfl
theorem lk_34 : Cond.methodLink R_law 34 (qzMd 114).1 ∈ qzWs := qzWs_in 731 (by decide +kernel) rfl
theorem lk_39 : Cond.methodLink R_law 39 (qzMd 115).1 ∈ qzWs := qzWs_in 735 (by decide +kernel) rfl
theorem lk_44 : Cond.methodLink R_law 44 (qzMd 116).1 ∈ qzWs := qzWs_in 739 (by decide +kernel) rfl
theorem lk_48 : Cond.methodLink R_law 48 (qzMd 117).1 ∈ qzWs := qzWs_in 743 (by decide +kernel) rfl
theorem lk_52 : Cond.methodLink R_law 52 (qzMd 126).1 ∈ qzWs := qzWs_in 747 (by decide +kernel) rfl
theorem lk_56 : Cond.methodLink R_law 56 (qzMd 127).1 ∈ qzWs := qzWs_in 782 (by decide +kernel) rfl
theorem lk_60 : Cond.methodLink R_law 60 (qzMd 129).1 ∈ qzWs := qzWs_in 786 (by decide +kernel) rfl
theorem lk_64 : Cond.methodLink R_law 64 (qzMd 130).1 ∈ qzWs := qzWs_in 794 (by decide +kernel) rfl
theorem lk_68 : Cond.methodLink R_law 68 (qzMd 131).1 ∈ qzWs := qzWs_in 798 (by decide +kernel) rfl
theorem lk_73 : Cond.methodLink R_law 73 (qzMd 132).1 ∈ qzWs := qzWs_in 802 (by decide +kernel) rfl
theorem lk_77 : Cond.methodLink R_law 77 (qzMd 137).1 ∈ qzWs := qzWs_in 806 (by decide +kernel) rfl
theorem lk_81 : Cond.methodLink R_law 81 (qzMd 138).1 ∈ qzWs := qzWs_in 826 (by decide +kernel) rfl
theorem lk_85 : Cond.methodLink R_law 85 (qzMd 139).1 ∈ qzWs := qzWs_in 830 (by decide +kernel) rfl
theorem lk_89 : Cond.methodLink R_law 89 (qzMd 140).1 ∈ qzWs := qzWs_in 834 (by decide +kernel) rfl
theorem lk_93 : Cond.methodLink R_law 93 (qzMd 141).1 ∈ qzWs := qzWs_in 838 (by decide +kernel) rfl
theorem lk_97 : Cond.methodLink R_law 97 (qzMd 142).1 ∈ qzWs := qzWs_in 842 (by decide +kernel) rfl
theorem lk_101 : Cond.methodLink R_law 101 (qzMd 143).1 ∈ qzWs := qzWs_in 846 (by decide +kernel) rfl
theorem lk_106 : Cond.methodLink R_law 106 (qzMd 144).1 ∈ qzWs := qzWs_in 850 (by decide +kernel) rfl
theorem lk_110 : Cond.methodLink R_law 110 (qzMd 145).1 ∈ qzWs := qzWs_in 854 (by decide +kernel) rfl
theorem lk_114 : Cond.methodLink R_law 114 (qzMd 146).1 ∈ qzWs := qzWs_in 858 (by decide +kernel) rfl
theorem lk_118 : Cond.methodLink R_law 118 (qzMd 147).1 ∈ qzWs := qzWs_in 862 (by decide +kernel) rfl
theorem lni_2 : Cond.instantiable (qzRs 2) (qzNf 2) ∈ qzWs := qzWs_in 63 (by decide +kernel) rfl
theorem lni_3 : Cond.instantiable (qzRs 3) (qzNf 3) ∈ qzWs := qzWs_in 579 (by decide +kernel) rfl
section LG2
variable {p : Program} {l : Launch} {e : Env} {R : Room} {s : State} {m : MethodId} {args : Array Value} {below : List Frame} {meth : Method} {c : Code} {Q : State → Prop} {G : qzGT} {D : va_G} {z0 : Nat} {S : Nat → Nat} {b L : Nat} {xs : Nat → Int32} {ad : Nat → Nat} {lsS : Array Slot} {H : Heap} {locs : List Loc} {cells slots : Nat} {pa : Nat → Nat} {h : Nat → Nat → Int32} {ln : Nat} {i : Int32}
theorem lo_148 (hTx : qzTx l) (F : lgF p s m args c G D z0 S b L xs) (C : lgC G D z0 S s ad H locs (67, qzRr pa, h)) (hI : lwI pa h ln) (hl : lv_has lsS 8 [(3, .int i), (2, .ref (ad 60)), (1, .ref (ad 0)), (0, .ref b)]) (in1 : vp_in (i + Int32.ofInt 1) L) (in2 : vp_in (i + Int32.ofInt 2) L) (in3 : vp_in (i + Int32.ofInt 3) L) (hR : 60 + 13 ≤ R.frames ∧ 500 + 100 * 60 ≤ R.locals ∧ cells ≤ R.cells ∧ slots ≤ R.slots)
    (kk : ∀ (H1 : Heap) (locs1 : List Loc) (pa1 : Nat → Nat) (h1 : Nat → Nat → Int32) (ln1 : Nat), lgC G D z0 S s ad H1 locs1 (67, qzRr pa1, h1) → lwI pa1 h1 ln1 → W p l e R s m args below meth c H1 locs1 cells slots Q (F0 m 743 lsS [])) : W p l e R s m args below meth c H locs cells slots Q (F0 m 148 lsS []) := by
  obtain ⟨v, v', pa1, h1, h2, ln', e1, e2, hI', heq⟩ := lwO_cut hI (xs (i + Int32.ofInt 1).toNatClampNeg) (lg_g (xs (i + Int32.ofInt 2).toNatClampNeg))
  obtain ⟨hx, hb, -⟩ := id F
  refine lv_aload_n hx hb dL_law_148 rfl (lv_at hl 2 rfl) ?_
  refine lg_arg F C (lv_at hl 3 rfl) (lv_at hl 0 rfl) dL_law_149 dL_law_150 dL_law_151 dL_law_152 dL_law_153 rfl rfl rfl rfl rfl rfl in1 rfl ?_
  refine lg_arg F C (lv_at hl 3 rfl) (lv_at hl 0 rfl) dL_law_154 dL_law_155 dL_law_156 dL_law_157 dL_law_158 rfl rfl rfl rfl rfl rfl in2 rfl ?_
  refine lg_bool F dL_law_159 dL_law_162 dL_law_163 dL_law_166 rfl rfl (by decide) (by decide) rfl ?_
  refine lg_call (as1 := [.int (xs (i + Int32.ofInt 1).toNatClampNeg), .int (if (xs (i + Int32.ofInt 2).toNatClampNeg) = 0 then 0 else 1)]) (rest := []) (i0 := 0) (mj := 25) (d := 60) hTx F C hl.1 dL_law_167 lk_13 e1 (by decide) rfl rfl (rt_r (i := 0) (by omega) (rt_i (rt_i rt_nil))) rfl (Nat.le_of_ble_eq_true rfl) rfl (Nat.le_of_ble_eq_true rfl) rfl hR (fun H1 locs1 C1 => ?_)
  refine lv_pop hx hb dL_law_170 rfl ?_
  refine lv_aload_n hx hb dL_law_171 rfl (lv_at hl 1 rfl) ?_
  refine lg_arg F C1 (lv_at hl 3 rfl) (lv_at hl 0 rfl) dL_law_172 dL_law_173 dL_law_174 dL_law_175 dL_law_176 rfl rfl rfl rfl rfl rfl in1 rfl ?_
  refine lg_arg F C1 (lv_at hl 3 rfl) (lv_at hl 0 rfl) dL_law_177 dL_law_178 dL_law_179 dL_law_180 dL_law_181 rfl rfl rfl rfl rfl rfl in2 rfl ?_
  refine lg_bool F dL_law_182 dL_law_185 dL_law_186 dL_law_189 rfl rfl (by decide) (by decide) rfl ?_
  refine lg_call (as1 := [.int (xs (i + Int32.ofInt 1).toNatClampNeg), .int (if (xs (i + Int32.ofInt 2).toNatClampNeg) = 0 then 0 else 1)]) (rest := []) (i0 := 60) (mj := 110) (d := 60) hTx F C1 hl.1 dL_law_190 lk_17 e2 (by decide) rfl rfl (rt_r (i := 60) (by omega) (rt_i (rt_i rt_nil))) rfl (Nat.le_of_ble_eq_true rfl) rfl (Nat.le_of_ble_eq_true rfl) rfl hR (fun H2 locs2 C2 => ?_)
  refine lv_pop hx hb dL_law_193 rfl ?_
  exact lv_goto (tgt := 743) hx hb dL_law_194 (by decide) (kk H2 locs2 pa1 h2 ln' C2 hI')
theorem lo_197 (hTx : qzTx l) (F : lgF p s m args c G D z0 S b L xs) (C : lgC G D z0 S s ad H locs (67, qzRr pa, h)) (hI : lwI pa h ln) (hl : lv_has lsS 8 [(3, .int i), (2, .ref (ad 60)), (1, .ref (ad 0)), (0, .ref b)]) (in1 : vp_in (i + Int32.ofInt 1) L) (in2 : vp_in (i + Int32.ofInt 2) L) (in3 : vp_in (i + Int32.ofInt 3) L) (hR : 60 + 13 ≤ R.frames ∧ 500 + 100 * 60 ≤ R.locals ∧ cells ≤ R.cells ∧ slots ≤ R.slots)
    (kk : ∀ (H1 : Heap) (locs1 : List Loc) (pa1 : Nat → Nat) (h1 : Nat → Nat → Int32) (ln1 : Nat), lgC G D z0 S s ad H1 locs1 (67, qzRr pa1, h1) → lwI pa1 h1 ln1 → W p l e R s m args below meth c H1 locs1 cells slots Q (F0 m 743 lsS [])) : W p l e R s m args below meth c H locs cells slots Q (F0 m 197 lsS []) := by
  obtain ⟨v, v', pa1, h1, h2, ln', e1, e2, hI', heq⟩ := lwO_best hI 
  obtain ⟨hx, hb, -⟩ := id F
  refine lv_aload_n hx hb dL_law_197 rfl (lv_at hl 2 rfl) ?_
  refine lg_call (as1 := []) (rest := []) (i0 := 0) (mj := 26) (d := 60) hTx F C hl.1 dL_law_198 lk_18 e1 (by decide) rfl rfl (rt_r (i := 0) (by omega) rt_nil) rfl (Nat.le_of_ble_eq_true rfl) rfl (Nat.le_of_ble_eq_true rfl) rfl hR (fun H1 locs1 C1 => ?_)
  refine lv_pop hx hb dL_law_201 rfl ?_
  refine lv_aload_n hx hb dL_law_202 rfl (lv_at hl 1 rfl) ?_
  refine lg_call (as1 := []) (rest := []) (i0 := 60) (mj := 111) (d := 60) hTx F C1 hl.1 dL_law_203 lk_22 e2 (by decide) rfl rfl (rt_r (i := 60) (by omega) rt_nil) rfl (Nat.le_of_ble_eq_true rfl) rfl (Nat.le_of_ble_eq_true rfl) rfl hR (fun H2 locs2 C2 => ?_)
  refine lv_pop hx hb dL_law_206 rfl ?_
  exact lv_goto (tgt := 743) hx hb dL_law_207 (by decide) (kk H2 locs2 pa1 h2 ln' C2 hI')
theorem lo_210 (hTx : qzTx l) (F : lgF p s m args c G D z0 S b L xs) (C : lgC G D z0 S s ad H locs (67, qzRr pa, h)) (hI : lwI pa h ln) (hl : lv_has lsS 8 [(3, .int i), (2, .ref (ad 60)), (1, .ref (ad 0)), (0, .ref b)]) (in1 : vp_in (i + Int32.ofInt 1) L) (in2 : vp_in (i + Int32.ofInt 2) L) (in3 : vp_in (i + Int32.ofInt 3) L) (hR : 60 + 13 ≤ R.frames ∧ 500 + 100 * 60 ≤ R.locals ∧ cells ≤ R.cells ∧ slots ≤ R.slots)
    (kk : ∀ (H1 : Heap) (locs1 : List Loc) (pa1 : Nat → Nat) (h1 : Nat → Nat → Int32) (ln1 : Nat), lgC G D z0 S s ad H1 locs1 (67, qzRr pa1, h1) → lwI pa1 h1 ln1 → W p l e R s m args below meth c H1 locs1 cells slots Q (F0 m 743 lsS [])) : W p l e R s m args below meth c H locs cells slots Q (F0 m 210 lsS []) := by
  obtain ⟨v, v', pa1, h1, h2, ln', e1, e2, hI', heq⟩ := lwO_greedy hI 
  obtain ⟨hx, hb, -⟩ := id F
  refine lv_aload_n hx hb dL_law_210 rfl (lv_at hl 2 rfl) ?_
  refine lg_call (as1 := []) (rest := []) (i0 := 0) (mj := 27) (d := 60) hTx F C hl.1 dL_law_211 lk_23 e1 (by decide) rfl rfl (rt_r (i := 0) (by omega) rt_nil) rfl (Nat.le_of_ble_eq_true rfl) rfl (Nat.le_of_ble_eq_true rfl) rfl hR (fun H1 locs1 C1 => ?_)
  refine lv_pop hx hb dL_law_214 rfl ?_
  refine lv_aload_n hx hb dL_law_215 rfl (lv_at hl 1 rfl) ?_
  refine lg_call (as1 := []) (rest := []) (i0 := 60) (mj := 112) (d := 60) hTx F C1 hl.1 dL_law_216 lk_26 e2 (by decide) rfl rfl (rt_r (i := 60) (by omega) rt_nil) rfl (Nat.le_of_ble_eq_true rfl) rfl (Nat.le_of_ble_eq_true rfl) rfl hR (fun H2 locs2 C2 => ?_)
  refine lv_pop hx hb dL_law_219 rfl ?_
  exact lv_goto (tgt := 743) hx hb dL_law_220 (by decide) (kk H2 locs2 pa1 h2 ln' C2 hI')
theorem lo_223 (hTx : qzTx l) (F : lgF p s m args c G D z0 S b L xs) (C : lgC G D z0 S s ad H locs (67, qzRr pa, h)) (hI : lwI pa h ln) (hl : lv_has lsS 8 [(3, .int i), (2, .ref (ad 60)), (1, .ref (ad 0)), (0, .ref b)]) (in1 : vp_in (i + Int32.ofInt 1) L) (in2 : vp_in (i + Int32.ofInt 2) L) (in3 : vp_in (i + Int32.ofInt 3) L) (hR : 60 + 13 ≤ R.frames ∧ 500 + 100 * 60 ≤ R.locals ∧ cells ≤ R.cells ∧ slots ≤ R.slots)
    (kk : ∀ (H1 : Heap) (locs1 : List Loc) (pa1 : Nat → Nat) (h1 : Nat → Nat → Int32) (ln1 : Nat), lgC G D z0 S s ad H1 locs1 (67, qzRr pa1, h1) → lwI pa1 h1 ln1 → W p l e R s m args below meth c H1 locs1 cells slots Q (F0 m 743 lsS [])) : W p l e R s m args below meth c H locs cells slots Q (F0 m 223 lsS []) := by
  obtain ⟨v, v', pa1, h1, h2, ln', e1, e2, hI', heq⟩ := lwO_again hI 
  obtain ⟨hx, hb, -⟩ := id F
  refine lv_aload_n hx hb dL_law_223 rfl (lv_at hl 2 rfl) ?_
  refine lg_call (as1 := []) (rest := []) (i0 := 0) (mj := 28) (d := 60) hTx F C hl.1 dL_law_224 lk_27 e1 (by decide) rfl rfl (rt_r (i := 0) (by omega) rt_nil) rfl (Nat.le_of_ble_eq_true rfl) rfl (Nat.le_of_ble_eq_true rfl) rfl hR (fun H1 locs1 C1 => ?_)
  refine lv_pop hx hb dL_law_227 rfl ?_
  refine lv_aload_n hx hb dL_law_228 rfl (lv_at hl 1 rfl) ?_
  refine lg_call (as1 := []) (rest := []) (i0 := 60) (mj := 113) (d := 60) hTx F C1 hl.1 dL_law_229 lk_30 e2 (by decide) rfl rfl (rt_r (i := 60) (by omega) rt_nil) rfl (Nat.le_of_ble_eq_true rfl) rfl (Nat.le_of_ble_eq_true rfl) rfl hR (fun H2 locs2 C2 => ?_)
  refine lv_pop hx hb dL_law_232 rfl ?_
  exact lv_goto (tgt := 743) hx hb dL_law_233 (by decide) (kk H2 locs2 pa1 h2 ln' C2 hI')
theorem lo_236 (hTx : qzTx l) (F : lgF p s m args c G D z0 S b L xs) (C : lgC G D z0 S s ad H locs (67, qzRr pa, h)) (hI : lwI pa h ln) (hl : lv_has lsS 8 [(3, .int i), (2, .ref (ad 60)), (1, .ref (ad 0)), (0, .ref b)]) (in1 : vp_in (i + Int32.ofInt 1) L) (in2 : vp_in (i + Int32.ofInt 2) L) (in3 : vp_in (i + Int32.ofInt 3) L) (hR : 60 + 13 ≤ R.frames ∧ 500 + 100 * 60 ≤ R.locals ∧ cells ≤ R.cells ∧ slots ≤ R.slots)
    (kk : ∀ (H1 : Heap) (locs1 : List Loc) (pa1 : Nat → Nat) (h1 : Nat → Nat → Int32) (ln1 : Nat), lgC G D z0 S s ad H1 locs1 (67, qzRr pa1, h1) → lwI pa1 h1 ln1 → W p l e R s m args below meth c H1 locs1 cells slots Q (F0 m 743 lsS [])) : W p l e R s m args below meth c H locs cells slots Q (F0 m 236 lsS []) := by
  obtain ⟨v, v', pa1, h1, h2, ln', e1, e2, hI', heq⟩ := lwO_mirror hI 
  obtain ⟨hx, hb, -⟩ := id F
  refine lv_aload_n hx hb dL_law_236 rfl (lv_at hl 2 rfl) ?_
  refine lg_call (as1 := []) (rest := []) (i0 := 0) (mj := 29) (d := 60) hTx F C hl.1 dL_law_237 lk_31 e1 (by decide) rfl rfl (rt_r (i := 0) (by omega) rt_nil) rfl (Nat.le_of_ble_eq_true rfl) rfl (Nat.le_of_ble_eq_true rfl) rfl hR (fun H1 locs1 C1 => ?_)
  refine lv_pop hx hb dL_law_240 rfl ?_
  refine lv_aload_n hx hb dL_law_241 rfl (lv_at hl 1 rfl) ?_
  refine lg_call (as1 := []) (rest := []) (i0 := 60) (mj := 114) (d := 60) hTx F C1 hl.1 dL_law_242 lk_34 e2 (by decide) rfl rfl (rt_r (i := 60) (by omega) rt_nil) rfl (Nat.le_of_ble_eq_true rfl) rfl (Nat.le_of_ble_eq_true rfl) rfl hR (fun H2 locs2 C2 => ?_)
  refine lv_pop hx hb dL_law_245 rfl ?_
  exact lv_goto (tgt := 743) hx hb dL_law_246 (by decide) (kk H2 locs2 pa1 h2 ln' C2 hI')
theorem lo_249 (hTx : qzTx l) (F : lgF p s m args c G D z0 S b L xs) (C : lgC G D z0 S s ad H locs (67, qzRr pa, h)) (hI : lwI pa h ln) (hl : lv_has lsS 8 [(3, .int i), (2, .ref (ad 60)), (1, .ref (ad 0)), (0, .ref b)]) (in1 : vp_in (i + Int32.ofInt 1) L) (in2 : vp_in (i + Int32.ofInt 2) L) (in3 : vp_in (i + Int32.ofInt 3) L) (hR : 60 + 13 ≤ R.frames ∧ 500 + 100 * 60 ≤ R.locals ∧ cells ≤ R.cells ∧ slots ≤ R.slots)
    (kk : ∀ (H1 : Heap) (locs1 : List Loc) (pa1 : Nat → Nat) (h1 : Nat → Nat → Int32) (ln1 : Nat), lgC G D z0 S s ad H1 locs1 (67, qzRr pa1, h1) → lwI pa1 h1 ln1 → W p l e R s m args below meth c H1 locs1 cells slots Q (F0 m 743 lsS [])) : W p l e R s m args below meth c H locs cells slots Q (F0 m 249 lsS []) := by
  obtain ⟨v, v', pa1, h1, h2, ln', e1, e2, hI', heq⟩ := lwO_set hI (xs (i + Int32.ofInt 1).toNatClampNeg) (xs (i + Int32.ofInt 2).toNatClampNeg)
  obtain ⟨hx, hb, -⟩ := id F
  refine lv_aload_n hx hb dL_law_249 rfl (lv_at hl 2 rfl) ?_
  refine lg_arg F C (lv_at hl 3 rfl) (lv_at hl 0 rfl) dL_law_250 dL_law_251 dL_law_252 dL_law_253 dL_law_254 rfl rfl rfl rfl rfl rfl in1 rfl ?_
  refine lg_arg F C (lv_at hl 3 rfl) (lv_at hl 0 rfl) dL_law_255 dL_law_256 dL_law_257 dL_law_258 dL_law_259 rfl rfl rfl rfl rfl rfl in2 rfl ?_
  refine lg_call (as1 := [.int (xs (i + Int32.ofInt 1).toNatClampNeg), .int (xs (i + Int32.ofInt 2).toNatClampNeg)]) (rest := []) (i0 := 0) (mj := 30) (d := 60) hTx F C hl.1 dL_law_260 lk_35 e1 (by decide) rfl rfl (rt_r (i := 0) (by omega) (rt_i (rt_i rt_nil))) rfl (Nat.le_of_ble_eq_true rfl) rfl (Nat.le_of_ble_eq_true rfl) rfl hR (fun H1 locs1 C1 => ?_)
  refine lv_pop hx hb dL_law_263 rfl ?_
  refine lv_aload_n hx hb dL_law_264 rfl (lv_at hl 1 rfl) ?_
  refine lg_arg F C1 (lv_at hl 3 rfl) (lv_at hl 0 rfl) dL_law_265 dL_law_266 dL_law_267 dL_law_268 dL_law_269 rfl rfl rfl rfl rfl rfl in1 rfl ?_
  refine lg_arg F C1 (lv_at hl 3 rfl) (lv_at hl 0 rfl) dL_law_270 dL_law_271 dL_law_272 dL_law_273 dL_law_274 rfl rfl rfl rfl rfl rfl in2 rfl ?_
  refine lg_call (as1 := [.int (xs (i + Int32.ofInt 1).toNatClampNeg), .int (xs (i + Int32.ofInt 2).toNatClampNeg)]) (rest := []) (i0 := 60) (mj := 115) (d := 60) hTx F C1 hl.1 dL_law_275 lk_39 e2 (by decide) rfl rfl (rt_r (i := 60) (by omega) (rt_i (rt_i rt_nil))) rfl (Nat.le_of_ble_eq_true rfl) rfl (Nat.le_of_ble_eq_true rfl) rfl hR (fun H2 locs2 C2 => ?_)
  refine lv_pop hx hb dL_law_278 rfl ?_
  exact lv_goto (tgt := 743) hx hb dL_law_279 (by decide) (kk H2 locs2 pa1 h2 ln' C2 hI')
theorem lo_282 (hTx : qzTx l) (F : lgF p s m args c G D z0 S b L xs) (C : lgC G D z0 S s ad H locs (67, qzRr pa, h)) (hI : lwI pa h ln) (hl : lv_has lsS 8 [(3, .int i), (2, .ref (ad 60)), (1, .ref (ad 0)), (0, .ref b)]) (in1 : vp_in (i + Int32.ofInt 1) L) (in2 : vp_in (i + Int32.ofInt 2) L) (in3 : vp_in (i + Int32.ofInt 3) L) (hR : 60 + 13 ≤ R.frames ∧ 500 + 100 * 60 ≤ R.locals ∧ cells ≤ R.cells ∧ slots ≤ R.slots)
    (kk : ∀ (H1 : Heap) (locs1 : List Loc) (pa1 : Nat → Nat) (h1 : Nat → Nat → Int32) (ln1 : Nat), lgC G D z0 S s ad H1 locs1 (67, qzRr pa1, h1) → lwI pa1 h1 ln1 → W p l e R s m args below meth c H1 locs1 cells slots Q (F0 m 743 lsS [])) : W p l e R s m args below meth c H locs cells slots Q (F0 m 282 lsS []) := by
  obtain ⟨v, v', pa1, h1, h2, ln', e1, e2, hI', heq⟩ := lwO_append hI (xs (i + Int32.ofInt 1).toNatClampNeg)
  obtain ⟨hx, hb, -⟩ := id F
  refine lv_aload_n hx hb dL_law_282 rfl (lv_at hl 2 rfl) ?_
  refine lg_arg F C (lv_at hl 3 rfl) (lv_at hl 0 rfl) dL_law_283 dL_law_284 dL_law_285 dL_law_286 dL_law_287 rfl rfl rfl rfl rfl rfl in1 rfl ?_
  refine lg_call (as1 := [.int (xs (i + Int32.ofInt 1).toNatClampNeg)]) (rest := []) (i0 := 0) (mj := 31) (d := 60) hTx F C hl.1 dL_law_288 lk_40 e1 (by decide) rfl rfl (rt_r (i := 0) (by omega) (rt_i rt_nil)) rfl (Nat.le_of_ble_eq_true rfl) rfl (Nat.le_of_ble_eq_true rfl) rfl hR (fun H1 locs1 C1 => ?_)
  refine lv_pop hx hb dL_law_291 rfl ?_
  refine lv_aload_n hx hb dL_law_292 rfl (lv_at hl 1 rfl) ?_
  refine lg_arg F C1 (lv_at hl 3 rfl) (lv_at hl 0 rfl) dL_law_293 dL_law_294 dL_law_295 dL_law_296 dL_law_297 rfl rfl rfl rfl rfl rfl in1 rfl ?_
  refine lg_call (as1 := [.int (xs (i + Int32.ofInt 1).toNatClampNeg)]) (rest := []) (i0 := 60) (mj := 116) (d := 60) hTx F C1 hl.1 dL_law_298 lk_44 e2 (by decide) rfl rfl (rt_r (i := 60) (by omega) (rt_i rt_nil)) rfl (Nat.le_of_ble_eq_true rfl) rfl (Nat.le_of_ble_eq_true rfl) rfl hR (fun H2 locs2 C2 => ?_)
  refine lv_pop hx hb dL_law_301 rfl ?_
  exact lv_goto (tgt := 743) hx hb dL_law_302 (by decide) (kk H2 locs2 pa1 h2 ln' C2 hI')
theorem lo_305 (hTx : qzTx l) (F : lgF p s m args c G D z0 S b L xs) (C : lgC G D z0 S s ad H locs (67, qzRr pa, h)) (hI : lwI pa h ln) (hl : lv_has lsS 8 [(3, .int i), (2, .ref (ad 60)), (1, .ref (ad 0)), (0, .ref b)]) (in1 : vp_in (i + Int32.ofInt 1) L) (in2 : vp_in (i + Int32.ofInt 2) L) (in3 : vp_in (i + Int32.ofInt 3) L) (hR : 60 + 13 ≤ R.frames ∧ 500 + 100 * 60 ≤ R.locals ∧ cells ≤ R.cells ∧ slots ≤ R.slots)
    (kk : ∀ (H1 : Heap) (locs1 : List Loc) (pa1 : Nat → Nat) (h1 : Nat → Nat → Int32) (ln1 : Nat), lgC G D z0 S s ad H1 locs1 (67, qzRr pa1, h1) → lwI pa1 h1 ln1 → W p l e R s m args below meth c H1 locs1 cells slots Q (F0 m 743 lsS [])) : W p l e R s m args below meth c H locs cells slots Q (F0 m 305 lsS []) := by
  obtain ⟨v, v', pa1, h1, h2, ln', e1, e2, hI', heq⟩ := lwO_clear hI 
  obtain ⟨hx, hb, -⟩ := id F
  refine lv_aload_n hx hb dL_law_305 rfl (lv_at hl 2 rfl) ?_
  refine lg_call (as1 := []) (rest := []) (i0 := 0) (mj := 32) (d := 60) hTx F C hl.1 dL_law_306 lk_45 e1 (by decide) rfl rfl (rt_r (i := 0) (by omega) rt_nil) rfl (Nat.le_of_ble_eq_true rfl) rfl (Nat.le_of_ble_eq_true rfl) rfl hR (fun H1 locs1 C1 => ?_)
  refine lv_pop hx hb dL_law_309 rfl ?_
  refine lv_aload_n hx hb dL_law_310 rfl (lv_at hl 1 rfl) ?_
  refine lg_call (as1 := []) (rest := []) (i0 := 60) (mj := 117) (d := 60) hTx F C1 hl.1 dL_law_311 lk_48 e2 (by decide) rfl rfl (rt_r (i := 60) (by omega) rt_nil) rfl (Nat.le_of_ble_eq_true rfl) rfl (Nat.le_of_ble_eq_true rfl) rfl hR (fun H2 locs2 C2 => ?_)
  refine lv_pop hx hb dL_law_314 rfl ?_
  exact lv_goto (tgt := 743) hx hb dL_law_315 (by decide) (kk H2 locs2 pa1 h2 ln' C2 hI')
theorem lo_318 (hTx : qzTx l) (F : lgF p s m args c G D z0 S b L xs) (C : lgC G D z0 S s ad H locs (67, qzRr pa, h)) (hI : lwI pa h ln) (hl : lv_has lsS 8 [(3, .int i), (2, .ref (ad 60)), (1, .ref (ad 0)), (0, .ref b)]) (in1 : vp_in (i + Int32.ofInt 1) L) (in2 : vp_in (i + Int32.ofInt 2) L) (in3 : vp_in (i + Int32.ofInt 3) L) (hR : 60 + 13 ≤ R.frames ∧ 500 + 100 * 60 ≤ R.locals ∧ cells ≤ R.cells ∧ slots ≤ R.slots)
    (kk : ∀ (H1 : Heap) (locs1 : List Loc) (pa1 : Nat → Nat) (h1 : Nat → Nat → Int32) (ln1 : Nat), lgC G D z0 S s ad H1 locs1 (67, qzRr pa1, h1) → lwI pa1 h1 ln1 → W p l e R s m args below meth c H1 locs1 cells slots Q (F0 m 743 lsS [])) : W p l e R s m args below meth c H locs cells slots Q (F0 m 318 lsS []) := by
  obtain ⟨v, v', pa1, h1, h2, ln', e1, e2, hI', heq⟩ := lwO_fault hI (xs (i + Int32.ofInt 1).toNatClampNeg)
  obtain ⟨hx, hb, -⟩ := id F
  refine lv_aload_n hx hb dL_law_318 rfl (lv_at hl 2 rfl) ?_
  refine lg_arg F C (lv_at hl 3 rfl) (lv_at hl 0 rfl) dL_law_319 dL_law_320 dL_law_321 dL_law_322 dL_law_323 rfl rfl rfl rfl rfl rfl in1 rfl ?_
  refine lg_call (as1 := [.int (xs (i + Int32.ofInt 1).toNatClampNeg)]) (rest := []) (i0 := 0) (mj := 33) (d := 60) hTx F C hl.1 dL_law_324 lk_49 e1 (by decide) rfl rfl (rt_r (i := 0) (by omega) (rt_i rt_nil)) rfl (Nat.le_of_ble_eq_true rfl) rfl (Nat.le_of_ble_eq_true rfl) rfl hR (fun H1 locs1 C1 => ?_)
  refine lv_pop hx hb dL_law_327 rfl ?_
  refine lv_aload_n hx hb dL_law_328 rfl (lv_at hl 1 rfl) ?_
  refine lg_arg F C1 (lv_at hl 3 rfl) (lv_at hl 0 rfl) dL_law_329 dL_law_330 dL_law_331 dL_law_332 dL_law_333 rfl rfl rfl rfl rfl rfl in1 rfl ?_
  refine lg_call (as1 := [.int (xs (i + Int32.ofInt 1).toNatClampNeg)]) (rest := []) (i0 := 60) (mj := 126) (d := 60) hTx F C1 hl.1 dL_law_334 lk_52 e2 (by decide) rfl rfl (rt_r (i := 60) (by omega) (rt_i rt_nil)) rfl (Nat.le_of_ble_eq_true rfl) rfl (Nat.le_of_ble_eq_true rfl) rfl hR (fun H2 locs2 C2 => ?_)
  refine lv_pop hx hb dL_law_337 rfl ?_
  exact lv_goto (tgt := 743) hx hb dL_law_338 (by decide) (kk H2 locs2 pa1 h2 ln' C2 hI')
theorem lo_341 (hTx : qzTx l) (F : lgF p s m args c G D z0 S b L xs) (C : lgC G D z0 S s ad H locs (67, qzRr pa, h)) (hI : lwI pa h ln) (hl : lv_has lsS 8 [(3, .int i), (2, .ref (ad 60)), (1, .ref (ad 0)), (0, .ref b)]) (in1 : vp_in (i + Int32.ofInt 1) L) (in2 : vp_in (i + Int32.ofInt 2) L) (in3 : vp_in (i + Int32.ofInt 3) L) (hR : 60 + 13 ≤ R.frames ∧ 500 + 100 * 60 ≤ R.locals ∧ cells ≤ R.cells ∧ slots ≤ R.slots)
    (kk : ∀ (H1 : Heap) (locs1 : List Loc) (pa1 : Nat → Nat) (h1 : Nat → Nat → Int32) (ln1 : Nat), lgC G D z0 S s ad H1 locs1 (67, qzRr pa1, h1) → lwI pa1 h1 ln1 → W p l e R s m args below meth c H1 locs1 cells slots Q (F0 m 743 lsS [])) : W p l e R s m args below meth c H locs cells slots Q (F0 m 341 lsS []) := by
  obtain ⟨v, v', pa1, h1, h2, ln', e1, e2, hI', heq⟩ := lwO_load hI 
  obtain ⟨hx, hb, -⟩ := id F
  refine lv_aload_n hx hb dL_law_341 rfl (lv_at hl 2 rfl) ?_
  refine lg_call (as1 := []) (rest := []) (i0 := 0) (mj := 34) (d := 60) hTx F C hl.1 dL_law_342 lk_53 e1 (by decide) rfl rfl (rt_r (i := 0) (by omega) rt_nil) rfl (Nat.le_of_ble_eq_true rfl) rfl (Nat.le_of_ble_eq_true rfl) rfl hR (fun H1 locs1 C1 => ?_)
  refine lv_pop hx hb dL_law_345 rfl ?_
  refine lv_aload_n hx hb dL_law_346 rfl (lv_at hl 1 rfl) ?_
  refine lg_call (as1 := []) (rest := []) (i0 := 60) (mj := 127) (d := 60) hTx F C1 hl.1 dL_law_347 lk_56 e2 (by decide) rfl rfl (rt_r (i := 60) (by omega) rt_nil) rfl (Nat.le_of_ble_eq_true rfl) rfl (Nat.le_of_ble_eq_true rfl) rfl hR (fun H2 locs2 C2 => ?_)
  refine lv_pop hx hb dL_law_350 rfl ?_
  exact lv_goto (tgt := 743) hx hb dL_law_351 (by decide) (kk H2 locs2 pa1 h2 ln' C2 hI')
theorem lo_354 (hTx : qzTx l) (F : lgF p s m args c G D z0 S b L xs) (C : lgC G D z0 S s ad H locs (67, qzRr pa, h)) (hI : lwI pa h ln) (hl : lv_has lsS 8 [(3, .int i), (2, .ref (ad 60)), (1, .ref (ad 0)), (0, .ref b)]) (in1 : vp_in (i + Int32.ofInt 1) L) (in2 : vp_in (i + Int32.ofInt 2) L) (in3 : vp_in (i + Int32.ofInt 3) L) (hR : 60 + 13 ≤ R.frames ∧ 500 + 100 * 60 ≤ R.locals ∧ cells ≤ R.cells ∧ slots ≤ R.slots)
    (kk : ∀ (H1 : Heap) (locs1 : List Loc) (pa1 : Nat → Nat) (h1 : Nat → Nat → Int32) (ln1 : Nat), lgC G D z0 S s ad H1 locs1 (67, qzRr pa1, h1) → lwI pa1 h1 ln1 → W p l e R s m args below meth c H1 locs1 cells slots Q (F0 m 743 lsS [])) : W p l e R s m args below meth c H locs cells slots Q (F0 m 354 lsS []) := by
  obtain ⟨v, v', pa1, h1, h2, ln', e1, e2, hI', heq⟩ := lwO_play hI 
  obtain ⟨hx, hb, -⟩ := id F
  refine lv_aload_n hx hb dL_law_354 rfl (lv_at hl 2 rfl) ?_
  refine lg_call (as1 := []) (rest := []) (i0 := 0) (mj := 35) (d := 60) hTx F C hl.1 dL_law_355 lk_57 e1 (by decide) rfl rfl (rt_r (i := 0) (by omega) rt_nil) rfl (Nat.le_of_ble_eq_true rfl) rfl (Nat.le_of_ble_eq_true rfl) rfl hR (fun H1 locs1 C1 => ?_)
  refine lv_pop hx hb dL_law_358 rfl ?_
  refine lv_aload_n hx hb dL_law_359 rfl (lv_at hl 1 rfl) ?_
  refine lg_call (as1 := []) (rest := []) (i0 := 60) (mj := 129) (d := 60) hTx F C1 hl.1 dL_law_360 lk_60 e2 (by decide) rfl rfl (rt_r (i := 60) (by omega) rt_nil) rfl (Nat.le_of_ble_eq_true rfl) rfl (Nat.le_of_ble_eq_true rfl) rfl hR (fun H2 locs2 C2 => ?_)
  refine lv_pop hx hb dL_law_363 rfl ?_
  exact lv_goto (tgt := 743) hx hb dL_law_364 (by decide) (kk H2 locs2 pa1 h2 ln' C2 hI')
theorem lo_367 (hTx : qzTx l) (F : lgF p s m args c G D z0 S b L xs) (C : lgC G D z0 S s ad H locs (67, qzRr pa, h)) (hI : lwI pa h ln) (hl : lv_has lsS 8 [(3, .int i), (2, .ref (ad 60)), (1, .ref (ad 0)), (0, .ref b)]) (in1 : vp_in (i + Int32.ofInt 1) L) (in2 : vp_in (i + Int32.ofInt 2) L) (in3 : vp_in (i + Int32.ofInt 3) L) (hR : 60 + 13 ≤ R.frames ∧ 500 + 100 * 60 ≤ R.locals ∧ cells ≤ R.cells ∧ slots ≤ R.slots)
    (kk : ∀ (H1 : Heap) (locs1 : List Loc) (pa1 : Nat → Nat) (h1 : Nat → Nat → Int32) (ln1 : Nat), lgC G D z0 S s ad H1 locs1 (67, qzRr pa1, h1) → lwI pa1 h1 ln1 → W p l e R s m args below meth c H1 locs1 cells slots Q (F0 m 743 lsS [])) : W p l e R s m args below meth c H locs cells slots Q (F0 m 367 lsS []) := by
  obtain ⟨v, v', pa1, h1, h2, ln', e1, e2, hI', heq⟩ := lwO_stripe hI (xs (i + Int32.ofInt 1).toNatClampNeg)
  obtain ⟨hx, hb, -⟩ := id F
  refine lv_aload_n hx hb dL_law_367 rfl (lv_at hl 2 rfl) ?_
  refine lg_arg F C (lv_at hl 3 rfl) (lv_at hl 0 rfl) dL_law_368 dL_law_369 dL_law_370 dL_law_371 dL_law_372 rfl rfl rfl rfl rfl rfl in1 rfl ?_
  refine lg_call (as1 := [.int (xs (i + Int32.ofInt 1).toNatClampNeg)]) (rest := []) (i0 := 0) (mj := 36) (d := 60) hTx F C hl.1 dL_law_373 lk_61 e1 (by decide) rfl rfl (rt_r (i := 0) (by omega) (rt_i rt_nil)) rfl (Nat.le_of_ble_eq_true rfl) rfl (Nat.le_of_ble_eq_true rfl) rfl hR (fun H1 locs1 C1 => ?_)
  refine lv_pop hx hb dL_law_376 rfl ?_
  refine lv_aload_n hx hb dL_law_377 rfl (lv_at hl 1 rfl) ?_
  refine lg_arg F C1 (lv_at hl 3 rfl) (lv_at hl 0 rfl) dL_law_378 dL_law_379 dL_law_380 dL_law_381 dL_law_382 rfl rfl rfl rfl rfl rfl in1 rfl ?_
  refine lg_call (as1 := [.int (xs (i + Int32.ofInt 1).toNatClampNeg)]) (rest := []) (i0 := 60) (mj := 130) (d := 60) hTx F C1 hl.1 dL_law_383 lk_64 e2 (by decide) rfl rfl (rt_r (i := 60) (by omega) (rt_i rt_nil)) rfl (Nat.le_of_ble_eq_true rfl) rfl (Nat.le_of_ble_eq_true rfl) rfl hR (fun H2 locs2 C2 => ?_)
  refine lv_pop hx hb dL_law_386 rfl ?_
  exact lv_goto (tgt := 743) hx hb dL_law_387 (by decide) (kk H2 locs2 pa1 h2 ln' C2 hI')
theorem lo_390 (hTx : qzTx l) (F : lgF p s m args c G D z0 S b L xs) (C : lgC G D z0 S s ad H locs (67, qzRr pa, h)) (hI : lwI pa h ln) (hl : lv_has lsS 8 [(3, .int i), (2, .ref (ad 60)), (1, .ref (ad 0)), (0, .ref b)]) (in1 : vp_in (i + Int32.ofInt 1) L) (in2 : vp_in (i + Int32.ofInt 2) L) (in3 : vp_in (i + Int32.ofInt 3) L) (hR : 60 + 13 ≤ R.frames ∧ 500 + 100 * 60 ≤ R.locals ∧ cells ≤ R.cells ∧ slots ≤ R.slots)
    (kk : ∀ (H1 : Heap) (locs1 : List Loc) (pa1 : Nat → Nat) (h1 : Nat → Nat → Int32) (ln1 : Nat), lgC G D z0 S s ad H1 locs1 (67, qzRr pa1, h1) → lwI pa1 h1 ln1 → W p l e R s m args below meth c H1 locs1 cells slots Q (F0 m 743 lsS [])) : W p l e R s m args below meth c H locs cells slots Q (F0 m 390 lsS []) := by
  obtain ⟨v, v', pa1, h1, h2, ln', e1, e2, hI', heq⟩ := lwO_coat hI (xs (i + Int32.ofInt 1).toNatClampNeg) (xs (i + Int32.ofInt 2).toNatClampNeg)
  obtain ⟨hx, hb, -⟩ := id F
  refine lv_aload_n hx hb dL_law_390 rfl (lv_at hl 2 rfl) ?_
  refine lg_arg F C (lv_at hl 3 rfl) (lv_at hl 0 rfl) dL_law_391 dL_law_392 dL_law_393 dL_law_394 dL_law_395 rfl rfl rfl rfl rfl rfl in1 rfl ?_
  refine lg_arg F C (lv_at hl 3 rfl) (lv_at hl 0 rfl) dL_law_396 dL_law_397 dL_law_398 dL_law_399 dL_law_400 rfl rfl rfl rfl rfl rfl in2 rfl ?_
  refine lg_call (as1 := [.int (xs (i + Int32.ofInt 1).toNatClampNeg), .int (xs (i + Int32.ofInt 2).toNatClampNeg)]) (rest := []) (i0 := 0) (mj := 37) (d := 60) hTx F C hl.1 dL_law_401 lk_65 e1 (by decide) rfl rfl (rt_r (i := 0) (by omega) (rt_i (rt_i rt_nil))) rfl (Nat.le_of_ble_eq_true rfl) rfl (Nat.le_of_ble_eq_true rfl) rfl hR (fun H1 locs1 C1 => ?_)
  refine lv_pop hx hb dL_law_404 rfl ?_
  refine lv_aload_n hx hb dL_law_405 rfl (lv_at hl 1 rfl) ?_
  refine lg_arg F C1 (lv_at hl 3 rfl) (lv_at hl 0 rfl) dL_law_406 dL_law_407 dL_law_408 dL_law_409 dL_law_410 rfl rfl rfl rfl rfl rfl in1 rfl ?_
  refine lg_arg F C1 (lv_at hl 3 rfl) (lv_at hl 0 rfl) dL_law_411 dL_law_412 dL_law_413 dL_law_414 dL_law_415 rfl rfl rfl rfl rfl rfl in2 rfl ?_
  refine lg_call (as1 := [.int (xs (i + Int32.ofInt 1).toNatClampNeg), .int (xs (i + Int32.ofInt 2).toNatClampNeg)]) (rest := []) (i0 := 60) (mj := 131) (d := 60) hTx F C1 hl.1 dL_law_416 lk_68 e2 (by decide) rfl rfl (rt_r (i := 60) (by omega) (rt_i (rt_i rt_nil))) rfl (Nat.le_of_ble_eq_true rfl) rfl (Nat.le_of_ble_eq_true rfl) rfl hR (fun H2 locs2 C2 => ?_)
  refine lv_pop hx hb dL_law_419 rfl ?_
  exact lv_goto (tgt := 743) hx hb dL_law_420 (by decide) (kk H2 locs2 pa1 h2 ln' C2 hI')
theorem lo_423 (hTx : qzTx l) (F : lgF p s m args c G D z0 S b L xs) (C : lgC G D z0 S s ad H locs (67, qzRr pa, h)) (hI : lwI pa h ln) (hl : lv_has lsS 8 [(3, .int i), (2, .ref (ad 60)), (1, .ref (ad 0)), (0, .ref b)]) (in1 : vp_in (i + Int32.ofInt 1) L) (in2 : vp_in (i + Int32.ofInt 2) L) (in3 : vp_in (i + Int32.ofInt 3) L) (hR : 60 + 13 ≤ R.frames ∧ 500 + 100 * 60 ≤ R.locals ∧ cells ≤ R.cells ∧ slots ≤ R.slots)
    (kk : ∀ (H1 : Heap) (locs1 : List Loc) (pa1 : Nat → Nat) (h1 : Nat → Nat → Int32) (ln1 : Nat), lgC G D z0 S s ad H1 locs1 (67, qzRr pa1, h1) → lwI pa1 h1 ln1 → W p l e R s m args below meth c H1 locs1 cells slots Q (F0 m 743 lsS [])) : W p l e R s m args below meth c H locs cells slots Q (F0 m 423 lsS []) := by
  obtain ⟨v, v', pa1, h1, h2, ln', e1, e2, hI', heq⟩ := lwO_piece hI (xs (i + Int32.ofInt 1).toNatClampNeg) (xs (i + Int32.ofInt 2).toNatClampNeg) (xs (i + Int32.ofInt 3).toNatClampNeg)
  obtain ⟨hx, hb, -⟩ := id F
  refine lv_aload_n hx hb dL_law_423 rfl (lv_at hl 2 rfl) ?_
  refine lg_arg F C (lv_at hl 3 rfl) (lv_at hl 0 rfl) dL_law_424 dL_law_425 dL_law_426 dL_law_427 dL_law_428 rfl rfl rfl rfl rfl rfl in1 rfl ?_
  refine lg_arg F C (lv_at hl 3 rfl) (lv_at hl 0 rfl) dL_law_429 dL_law_430 dL_law_431 dL_law_432 dL_law_433 rfl rfl rfl rfl rfl rfl in2 rfl ?_
  refine lg_arg F C (lv_at hl 3 rfl) (lv_at hl 0 rfl) dL_law_434 dL_law_435 dL_law_436 dL_law_437 dL_law_438 rfl rfl rfl rfl rfl rfl in3 rfl ?_
  refine lg_call (as1 := [.int (xs (i + Int32.ofInt 1).toNatClampNeg), .int (xs (i + Int32.ofInt 2).toNatClampNeg), .int (xs (i + Int32.ofInt 3).toNatClampNeg)]) (rest := []) (i0 := 0) (mj := 38) (d := 60) hTx F C hl.1 dL_law_439 lk_69 e1 (by decide) rfl rfl (rt_r (i := 0) (by omega) (rt_i (rt_i (rt_i rt_nil)))) rfl (Nat.le_of_ble_eq_true rfl) rfl (Nat.le_of_ble_eq_true rfl) rfl hR (fun H1 locs1 C1 => ?_)
  refine lv_pop hx hb dL_law_442 rfl ?_
  refine lv_aload_n hx hb dL_law_443 rfl (lv_at hl 1 rfl) ?_
  refine lg_arg F C1 (lv_at hl 3 rfl) (lv_at hl 0 rfl) dL_law_444 dL_law_445 dL_law_446 dL_law_447 dL_law_448 rfl rfl rfl rfl rfl rfl in1 rfl ?_
  refine lg_arg F C1 (lv_at hl 3 rfl) (lv_at hl 0 rfl) dL_law_449 dL_law_450 dL_law_451 dL_law_452 dL_law_453 rfl rfl rfl rfl rfl rfl in2 rfl ?_
  refine lg_arg F C1 (lv_at hl 3 rfl) (lv_at hl 0 rfl) dL_law_454 dL_law_455 dL_law_456 dL_law_457 dL_law_458 rfl rfl rfl rfl rfl rfl in3 rfl ?_
  refine lg_call (as1 := [.int (xs (i + Int32.ofInt 1).toNatClampNeg), .int (xs (i + Int32.ofInt 2).toNatClampNeg), .int (xs (i + Int32.ofInt 3).toNatClampNeg)]) (rest := []) (i0 := 60) (mj := 132) (d := 60) hTx F C1 hl.1 dL_law_459 lk_73 e2 (by decide) rfl rfl (rt_r (i := 60) (by omega) (rt_i (rt_i (rt_i rt_nil)))) rfl (Nat.le_of_ble_eq_true rfl) rfl (Nat.le_of_ble_eq_true rfl) rfl hR (fun H2 locs2 C2 => ?_)
  refine lv_pop hx hb dL_law_462 rfl ?_
  exact lv_goto (tgt := 743) hx hb dL_law_463 (by decide) (kk H2 locs2 pa1 h2 ln' C2 hI')
theorem lo_466 (hTx : qzTx l) (F : lgF p s m args c G D z0 S b L xs) (C : lgC G D z0 S s ad H locs (67, qzRr pa, h)) (hI : lwI pa h ln) (hl : lv_has lsS 8 [(3, .int i), (2, .ref (ad 60)), (1, .ref (ad 0)), (0, .ref b)]) (in1 : vp_in (i + Int32.ofInt 1) L) (in2 : vp_in (i + Int32.ofInt 2) L) (in3 : vp_in (i + Int32.ofInt 3) L) (hR : 60 + 13 ≤ R.frames ∧ 500 + 100 * 60 ≤ R.locals ∧ cells ≤ R.cells ∧ slots ≤ R.slots)
    (kk : ∀ (H1 : Heap) (locs1 : List Loc) (pa1 : Nat → Nat) (h1 : Nat → Nat → Int32) (ln1 : Nat), lgC G D z0 S s ad H1 locs1 (67, qzRr pa1, h1) → lwI pa1 h1 ln1 → W p l e R s m args below meth c H1 locs1 cells slots Q (F0 m 743 lsS [])) : W p l e R s m args below meth c H locs cells slots Q (F0 m 466 lsS []) := by
  obtain ⟨v, v', pa1, h1, h2, ln', e1, e2, hI', heq⟩ := lwO_count hI (xs (i + Int32.ofInt 1).toNatClampNeg)
  obtain ⟨hx, hb, -⟩ := id F
  refine lv_aload_n hx hb dL_law_466 rfl (lv_at hl 2 rfl) ?_
  refine lg_arg F C (lv_at hl 3 rfl) (lv_at hl 0 rfl) dL_law_467 dL_law_468 dL_law_469 dL_law_470 dL_law_471 rfl rfl rfl rfl rfl rfl in1 rfl ?_
  refine lg_call (as1 := [.int (xs (i + Int32.ofInt 1).toNatClampNeg)]) (rest := []) (i0 := 0) (mj := 39) (d := 60) hTx F C hl.1 dL_law_472 lk_74 e1 (by decide) rfl rfl (rt_r (i := 0) (by omega) (rt_i rt_nil)) rfl (Nat.le_of_ble_eq_true rfl) rfl (Nat.le_of_ble_eq_true rfl) rfl hR (fun H1 locs1 C1 => ?_)
  refine lv_pop hx hb dL_law_475 rfl ?_
  refine lv_aload_n hx hb dL_law_476 rfl (lv_at hl 1 rfl) ?_
  refine lg_arg F C1 (lv_at hl 3 rfl) (lv_at hl 0 rfl) dL_law_477 dL_law_478 dL_law_479 dL_law_480 dL_law_481 rfl rfl rfl rfl rfl rfl in1 rfl ?_
  refine lg_call (as1 := [.int (xs (i + Int32.ofInt 1).toNatClampNeg)]) (rest := []) (i0 := 60) (mj := 137) (d := 60) hTx F C1 hl.1 dL_law_482 lk_77 e2 (by decide) rfl rfl (rt_r (i := 60) (by omega) (rt_i rt_nil)) rfl (Nat.le_of_ble_eq_true rfl) rfl (Nat.le_of_ble_eq_true rfl) rfl hR (fun H2 locs2 C2 => ?_)
  refine lv_pop hx hb dL_law_485 rfl ?_
  exact lv_goto (tgt := 743) hx hb dL_law_486 (by decide) (kk H2 locs2 pa1 h2 ln' C2 hI')
theorem lo_489 (hTx : qzTx l) (F : lgF p s m args c G D z0 S b L xs) (C : lgC G D z0 S s ad H locs (67, qzRr pa, h)) (hI : lwI pa h ln) (hl : lv_has lsS 8 [(3, .int i), (2, .ref (ad 60)), (1, .ref (ad 0)), (0, .ref b)]) (in1 : vp_in (i + Int32.ofInt 1) L) (in2 : vp_in (i + Int32.ofInt 2) L) (in3 : vp_in (i + Int32.ofInt 3) L) (hR : 60 + 13 ≤ R.frames ∧ 500 + 100 * 60 ≤ R.locals ∧ cells ≤ R.cells ∧ slots ≤ R.slots)
    (kk : ∀ (H1 : Heap) (locs1 : List Loc) (pa1 : Nat → Nat) (h1 : Nat → Nat → Int32) (ln1 : Nat), lgC G D z0 S s ad H1 locs1 (67, qzRr pa1, h1) → lwI pa1 h1 ln1 → W p l e R s m args below meth c H1 locs1 cells slots Q (F0 m 743 lsS [])) : W p l e R s m args below meth c H locs cells slots Q (F0 m 489 lsS []) := by
  obtain ⟨v, v', pa1, h1, h2, ln', e1, e2, hI', heq⟩ := lwO_left hI (xs (i + Int32.ofInt 1).toNatClampNeg)
  obtain ⟨hx, hb, -⟩ := id F
  refine lv_aload_n hx hb dL_law_489 rfl (lv_at hl 2 rfl) ?_
  refine lg_arg F C (lv_at hl 3 rfl) (lv_at hl 0 rfl) dL_law_490 dL_law_491 dL_law_492 dL_law_493 dL_law_494 rfl rfl rfl rfl rfl rfl in1 rfl ?_
  refine lg_call (as1 := [.int (xs (i + Int32.ofInt 1).toNatClampNeg)]) (rest := []) (i0 := 0) (mj := 40) (d := 60) hTx F C hl.1 dL_law_495 lk_78 e1 (by decide) rfl rfl (rt_r (i := 0) (by omega) (rt_i rt_nil)) rfl (Nat.le_of_ble_eq_true rfl) rfl (Nat.le_of_ble_eq_true rfl) rfl hR (fun H1 locs1 C1 => ?_)
  refine lv_pop hx hb dL_law_498 rfl ?_
  refine lv_aload_n hx hb dL_law_499 rfl (lv_at hl 1 rfl) ?_
  refine lg_arg F C1 (lv_at hl 3 rfl) (lv_at hl 0 rfl) dL_law_500 dL_law_501 dL_law_502 dL_law_503 dL_law_504 rfl rfl rfl rfl rfl rfl in1 rfl ?_
  refine lg_call (as1 := [.int (xs (i + Int32.ofInt 1).toNatClampNeg)]) (rest := []) (i0 := 60) (mj := 138) (d := 60) hTx F C1 hl.1 dL_law_505 lk_81 e2 (by decide) rfl rfl (rt_r (i := 60) (by omega) (rt_i rt_nil)) rfl (Nat.le_of_ble_eq_true rfl) rfl (Nat.le_of_ble_eq_true rfl) rfl hR (fun H2 locs2 C2 => ?_)
  refine lv_pop hx hb dL_law_508 rfl ?_
  exact lv_goto (tgt := 743) hx hb dL_law_509 (by decide) (kk H2 locs2 pa1 h2 ln' C2 hI')
theorem lo_512 (hTx : qzTx l) (F : lgF p s m args c G D z0 S b L xs) (C : lgC G D z0 S s ad H locs (67, qzRr pa, h)) (hI : lwI pa h ln) (hl : lv_has lsS 8 [(3, .int i), (2, .ref (ad 60)), (1, .ref (ad 0)), (0, .ref b)]) (in1 : vp_in (i + Int32.ofInt 1) L) (in2 : vp_in (i + Int32.ofInt 2) L) (in3 : vp_in (i + Int32.ofInt 3) L) (hR : 60 + 13 ≤ R.frames ∧ 500 + 100 * 60 ≤ R.locals ∧ cells ≤ R.cells ∧ slots ≤ R.slots)
    (kk : ∀ (H1 : Heap) (locs1 : List Loc) (pa1 : Nat → Nat) (h1 : Nat → Nat → Int32) (ln1 : Nat), lgC G D z0 S s ad H1 locs1 (67, qzRr pa1, h1) → lwI pa1 h1 ln1 → W p l e R s m args below meth c H1 locs1 cells slots Q (F0 m 743 lsS [])) : W p l e R s m args below meth c H locs cells slots Q (F0 m 512 lsS []) := by
  obtain ⟨v, v', pa1, h1, h2, ln', e1, e2, hI', heq⟩ := lwO_worth hI (xs (i + Int32.ofInt 1).toNatClampNeg) (lg_g (xs (i + Int32.ofInt 2).toNatClampNeg))
  obtain ⟨hx, hb, -⟩ := id F
  refine lv_aload_n hx hb dL_law_512 rfl (lv_at hl 2 rfl) ?_
  refine lg_arg F C (lv_at hl 3 rfl) (lv_at hl 0 rfl) dL_law_513 dL_law_514 dL_law_515 dL_law_516 dL_law_517 rfl rfl rfl rfl rfl rfl in1 rfl ?_
  refine lg_arg F C (lv_at hl 3 rfl) (lv_at hl 0 rfl) dL_law_518 dL_law_519 dL_law_520 dL_law_521 dL_law_522 rfl rfl rfl rfl rfl rfl in2 rfl ?_
  refine lg_bool F dL_law_523 dL_law_526 dL_law_527 dL_law_530 rfl rfl (by decide) (by decide) rfl ?_
  refine lg_call (as1 := [.int (xs (i + Int32.ofInt 1).toNatClampNeg), .int (if (xs (i + Int32.ofInt 2).toNatClampNeg) = 0 then 0 else 1)]) (rest := []) (i0 := 0) (mj := 41) (d := 60) hTx F C hl.1 dL_law_531 lk_82 e1 (by decide) rfl rfl (rt_r (i := 0) (by omega) (rt_i (rt_i rt_nil))) rfl (Nat.le_of_ble_eq_true rfl) rfl (Nat.le_of_ble_eq_true rfl) rfl hR (fun H1 locs1 C1 => ?_)
  refine lv_pop hx hb dL_law_534 rfl ?_
  refine lv_aload_n hx hb dL_law_535 rfl (lv_at hl 1 rfl) ?_
  refine lg_arg F C1 (lv_at hl 3 rfl) (lv_at hl 0 rfl) dL_law_536 dL_law_537 dL_law_538 dL_law_539 dL_law_540 rfl rfl rfl rfl rfl rfl in1 rfl ?_
  refine lg_arg F C1 (lv_at hl 3 rfl) (lv_at hl 0 rfl) dL_law_541 dL_law_542 dL_law_543 dL_law_544 dL_law_545 rfl rfl rfl rfl rfl rfl in2 rfl ?_
  refine lg_bool F dL_law_546 dL_law_549 dL_law_550 dL_law_553 rfl rfl (by decide) (by decide) rfl ?_
  refine lg_call (as1 := [.int (xs (i + Int32.ofInt 1).toNatClampNeg), .int (if (xs (i + Int32.ofInt 2).toNatClampNeg) = 0 then 0 else 1)]) (rest := []) (i0 := 60) (mj := 139) (d := 60) hTx F C1 hl.1 dL_law_554 lk_85 e2 (by decide) rfl rfl (rt_r (i := 60) (by omega) (rt_i (rt_i rt_nil))) rfl (Nat.le_of_ble_eq_true rfl) rfl (Nat.le_of_ble_eq_true rfl) rfl hR (fun H2 locs2 C2 => ?_)
  refine lv_pop hx hb dL_law_557 rfl ?_
  exact lv_goto (tgt := 743) hx hb dL_law_558 (by decide) (kk H2 locs2 pa1 h2 ln' C2 hI')
theorem lo_561 (hTx : qzTx l) (F : lgF p s m args c G D z0 S b L xs) (C : lgC G D z0 S s ad H locs (67, qzRr pa, h)) (hI : lwI pa h ln) (hl : lv_has lsS 8 [(3, .int i), (2, .ref (ad 60)), (1, .ref (ad 0)), (0, .ref b)]) (in1 : vp_in (i + Int32.ofInt 1) L) (in2 : vp_in (i + Int32.ofInt 2) L) (in3 : vp_in (i + Int32.ofInt 3) L) (hR : 60 + 13 ≤ R.frames ∧ 500 + 100 * 60 ≤ R.locals ∧ cells ≤ R.cells ∧ slots ≤ R.slots)
    (kk : ∀ (H1 : Heap) (locs1 : List Loc) (pa1 : Nat → Nat) (h1 : Nat → Nat → Int32) (ln1 : Nat), lgC G D z0 S s ad H1 locs1 (67, qzRr pa1, h1) → lwI pa1 h1 ln1 → W p l e R s m args below meth c H1 locs1 cells slots Q (F0 m 743 lsS [])) : W p l e R s m args below meth c H locs cells slots Q (F0 m 561 lsS []) := by
  obtain ⟨v, v', pa1, h1, h2, ln', e1, e2, hI', heq⟩ := lwO_lead hI (xs (i + Int32.ofInt 1).toNatClampNeg)
  obtain ⟨hx, hb, -⟩ := id F
  refine lv_aload_n hx hb dL_law_561 rfl (lv_at hl 2 rfl) ?_
  refine lg_arg F C (lv_at hl 3 rfl) (lv_at hl 0 rfl) dL_law_562 dL_law_563 dL_law_564 dL_law_565 dL_law_566 rfl rfl rfl rfl rfl rfl in1 rfl ?_
  refine lg_call (as1 := [.int (xs (i + Int32.ofInt 1).toNatClampNeg)]) (rest := []) (i0 := 0) (mj := 42) (d := 60) hTx F C hl.1 dL_law_567 lk_86 e1 (by decide) rfl rfl (rt_r (i := 0) (by omega) (rt_i rt_nil)) rfl (Nat.le_of_ble_eq_true rfl) rfl (Nat.le_of_ble_eq_true rfl) rfl hR (fun H1 locs1 C1 => ?_)
  refine lv_pop hx hb dL_law_570 rfl ?_
  refine lv_aload_n hx hb dL_law_571 rfl (lv_at hl 1 rfl) ?_
  refine lg_arg F C1 (lv_at hl 3 rfl) (lv_at hl 0 rfl) dL_law_572 dL_law_573 dL_law_574 dL_law_575 dL_law_576 rfl rfl rfl rfl rfl rfl in1 rfl ?_
  refine lg_call (as1 := [.int (xs (i + Int32.ofInt 1).toNatClampNeg)]) (rest := []) (i0 := 60) (mj := 140) (d := 60) hTx F C1 hl.1 dL_law_577 lk_89 e2 (by decide) rfl rfl (rt_r (i := 60) (by omega) (rt_i rt_nil)) rfl (Nat.le_of_ble_eq_true rfl) rfl (Nat.le_of_ble_eq_true rfl) rfl hR (fun H2 locs2 C2 => ?_)
  refine lv_pop hx hb dL_law_580 rfl ?_
  exact lv_goto (tgt := 743) hx hb dL_law_581 (by decide) (kk H2 locs2 pa1 h2 ln' C2 hI')
theorem lo_584 (hTx : qzTx l) (F : lgF p s m args c G D z0 S b L xs) (C : lgC G D z0 S s ad H locs (67, qzRr pa, h)) (hI : lwI pa h ln) (hl : lv_has lsS 8 [(3, .int i), (2, .ref (ad 60)), (1, .ref (ad 0)), (0, .ref b)]) (in1 : vp_in (i + Int32.ofInt 1) L) (in2 : vp_in (i + Int32.ofInt 2) L) (in3 : vp_in (i + Int32.ofInt 3) L) (hR : 60 + 13 ≤ R.frames ∧ 500 + 100 * 60 ≤ R.locals ∧ cells ≤ R.cells ∧ slots ≤ R.slots)
    (kk : ∀ (H1 : Heap) (locs1 : List Loc) (pa1 : Nat → Nat) (h1 : Nat → Nat → Int32) (ln1 : Nat), lgC G D z0 S s ad H1 locs1 (67, qzRr pa1, h1) → lwI pa1 h1 ln1 → W p l e R s m args below meth c H1 locs1 cells slots Q (F0 m 743 lsS [])) : W p l e R s m args below meth c H locs cells slots Q (F0 m 584 lsS []) := by
  obtain ⟨v, v', pa1, h1, h2, ln', e1, e2, hI', heq⟩ := lwO_leadWith hI (xs (i + Int32.ofInt 1).toNatClampNeg) (lg_g (xs (i + Int32.ofInt 2).toNatClampNeg))
  obtain ⟨hx, hb, -⟩ := id F
  refine lv_aload_n hx hb dL_law_584 rfl (lv_at hl 2 rfl) ?_
  refine lg_arg F C (lv_at hl 3 rfl) (lv_at hl 0 rfl) dL_law_585 dL_law_586 dL_law_587 dL_law_588 dL_law_589 rfl rfl rfl rfl rfl rfl in1 rfl ?_
  refine lg_arg F C (lv_at hl 3 rfl) (lv_at hl 0 rfl) dL_law_590 dL_law_591 dL_law_592 dL_law_593 dL_law_594 rfl rfl rfl rfl rfl rfl in2 rfl ?_
  refine lg_bool F dL_law_595 dL_law_598 dL_law_599 dL_law_602 rfl rfl (by decide) (by decide) rfl ?_
  refine lg_call (as1 := [.int (xs (i + Int32.ofInt 1).toNatClampNeg), .int (if (xs (i + Int32.ofInt 2).toNatClampNeg) = 0 then 0 else 1)]) (rest := []) (i0 := 0) (mj := 43) (d := 60) hTx F C hl.1 dL_law_603 lk_90 e1 (by decide) rfl rfl (rt_r (i := 0) (by omega) (rt_i (rt_i rt_nil))) rfl (Nat.le_of_ble_eq_true rfl) rfl (Nat.le_of_ble_eq_true rfl) rfl hR (fun H1 locs1 C1 => ?_)
  refine lv_pop hx hb dL_law_606 rfl ?_
  refine lv_aload_n hx hb dL_law_607 rfl (lv_at hl 1 rfl) ?_
  refine lg_arg F C1 (lv_at hl 3 rfl) (lv_at hl 0 rfl) dL_law_608 dL_law_609 dL_law_610 dL_law_611 dL_law_612 rfl rfl rfl rfl rfl rfl in1 rfl ?_
  refine lg_arg F C1 (lv_at hl 3 rfl) (lv_at hl 0 rfl) dL_law_613 dL_law_614 dL_law_615 dL_law_616 dL_law_617 rfl rfl rfl rfl rfl rfl in2 rfl ?_
  refine lg_bool F dL_law_618 dL_law_621 dL_law_622 dL_law_625 rfl rfl (by decide) (by decide) rfl ?_
  refine lg_call (as1 := [.int (xs (i + Int32.ofInt 1).toNatClampNeg), .int (if (xs (i + Int32.ofInt 2).toNatClampNeg) = 0 then 0 else 1)]) (rest := []) (i0 := 60) (mj := 141) (d := 60) hTx F C1 hl.1 dL_law_626 lk_93 e2 (by decide) rfl rfl (rt_r (i := 60) (by omega) (rt_i (rt_i rt_nil))) rfl (Nat.le_of_ble_eq_true rfl) rfl (Nat.le_of_ble_eq_true rfl) rfl hR (fun H2 locs2 C2 => ?_)
  refine lv_pop hx hb dL_law_629 rfl ?_
  exact lv_goto (tgt := 743) hx hb dL_law_630 (by decide) (kk H2 locs2 pa1 h2 ln' C2 hI')
theorem lo_633 (hTx : qzTx l) (F : lgF p s m args c G D z0 S b L xs) (C : lgC G D z0 S s ad H locs (67, qzRr pa, h)) (hI : lwI pa h ln) (hl : lv_has lsS 8 [(3, .int i), (2, .ref (ad 60)), (1, .ref (ad 0)), (0, .ref b)]) (in1 : vp_in (i + Int32.ofInt 1) L) (in2 : vp_in (i + Int32.ofInt 2) L) (in3 : vp_in (i + Int32.ofInt 3) L) (hR : 60 + 13 ≤ R.frames ∧ 500 + 100 * 60 ≤ R.locals ∧ cells ≤ R.cells ∧ slots ≤ R.slots)
    (kk : ∀ (H1 : Heap) (locs1 : List Loc) (pa1 : Nat → Nat) (h1 : Nat → Nat → Int32) (ln1 : Nat), lgC G D z0 S s ad H1 locs1 (67, qzRr pa1, h1) → lwI pa1 h1 ln1 → W p l e R s m args below meth c H1 locs1 cells slots Q (F0 m 743 lsS [])) : W p l e R s m args below meth c H locs cells slots Q (F0 m 633 lsS []) := by
  obtain ⟨v, v', pa1, h1, h2, ln', e1, e2, hI', heq⟩ := lwO_bestCut hI 
  obtain ⟨hx, hb, -⟩ := id F
  refine lv_aload_n hx hb dL_law_633 rfl (lv_at hl 2 rfl) ?_
  refine lg_call (as1 := []) (rest := []) (i0 := 0) (mj := 44) (d := 60) hTx F C hl.1 dL_law_634 lk_94 e1 (by decide) rfl rfl (rt_r (i := 0) (by omega) rt_nil) rfl (Nat.le_of_ble_eq_true rfl) rfl (Nat.le_of_ble_eq_true rfl) rfl hR (fun H1 locs1 C1 => ?_)
  refine lv_pop hx hb dL_law_637 rfl ?_
  refine lv_aload_n hx hb dL_law_638 rfl (lv_at hl 1 rfl) ?_
  refine lg_call (as1 := []) (rest := []) (i0 := 60) (mj := 142) (d := 60) hTx F C1 hl.1 dL_law_639 lk_97 e2 (by decide) rfl rfl (rt_r (i := 60) (by omega) rt_nil) rfl (Nat.le_of_ble_eq_true rfl) rfl (Nat.le_of_ble_eq_true rfl) rfl hR (fun H2 locs2 C2 => ?_)
  refine lv_pop hx hb dL_law_642 rfl ?_
  exact lv_goto (tgt := 743) hx hb dL_law_643 (by decide) (kk H2 locs2 pa1 h2 ln' C2 hI')
theorem lo_646 (hTx : qzTx l) (F : lgF p s m args c G D z0 S b L xs) (C : lgC G D z0 S s ad H locs (67, qzRr pa, h)) (hI : lwI pa h ln) (hl : lv_has lsS 8 [(3, .int i), (2, .ref (ad 60)), (1, .ref (ad 0)), (0, .ref b)]) (in1 : vp_in (i + Int32.ofInt 1) L) (in2 : vp_in (i + Int32.ofInt 2) L) (in3 : vp_in (i + Int32.ofInt 3) L) (hR : 60 + 13 ≤ R.frames ∧ 500 + 100 * 60 ≤ R.locals ∧ cells ≤ R.cells ∧ slots ≤ R.slots)
    (kk : ∀ (H1 : Heap) (locs1 : List Loc) (pa1 : Nat → Nat) (h1 : Nat → Nat → Int32) (ln1 : Nat), lgC G D z0 S s ad H1 locs1 (67, qzRr pa1, h1) → lwI pa1 h1 ln1 → W p l e R s m args below meth c H1 locs1 cells slots Q (F0 m 743 lsS [])) : W p l e R s m args below meth c H locs cells slots Q (F0 m 646 lsS []) := by
  obtain ⟨v, v', pa1, h1, h2, ln', e1, e2, hI', heq⟩ := lwO_ended hI (xs (i + Int32.ofInt 1).toNatClampNeg) (xs (i + Int32.ofInt 2).toNatClampNeg) (xs (i + Int32.ofInt 3).toNatClampNeg)
  obtain ⟨hx, hb, -⟩ := id F
  refine lv_aload_n hx hb dL_law_646 rfl (lv_at hl 2 rfl) ?_
  refine lg_arg F C (lv_at hl 3 rfl) (lv_at hl 0 rfl) dL_law_647 dL_law_648 dL_law_649 dL_law_650 dL_law_651 rfl rfl rfl rfl rfl rfl in1 rfl ?_
  refine lg_arg F C (lv_at hl 3 rfl) (lv_at hl 0 rfl) dL_law_652 dL_law_653 dL_law_654 dL_law_655 dL_law_656 rfl rfl rfl rfl rfl rfl in2 rfl ?_
  refine lg_arg F C (lv_at hl 3 rfl) (lv_at hl 0 rfl) dL_law_657 dL_law_658 dL_law_659 dL_law_660 dL_law_661 rfl rfl rfl rfl rfl rfl in3 rfl ?_
  refine lg_call (as1 := [.int (xs (i + Int32.ofInt 1).toNatClampNeg), .int (xs (i + Int32.ofInt 2).toNatClampNeg), .int (xs (i + Int32.ofInt 3).toNatClampNeg)]) (rest := []) (i0 := 0) (mj := 45) (d := 60) hTx F C hl.1 dL_law_662 lk_98 e1 (by decide) rfl rfl (rt_r (i := 0) (by omega) (rt_i (rt_i (rt_i rt_nil)))) rfl (Nat.le_of_ble_eq_true rfl) rfl (Nat.le_of_ble_eq_true rfl) rfl hR (fun H1 locs1 C1 => ?_)
  refine lv_pop hx hb dL_law_665 rfl ?_
  refine lv_aload_n hx hb dL_law_666 rfl (lv_at hl 1 rfl) ?_
  refine lg_arg F C1 (lv_at hl 3 rfl) (lv_at hl 0 rfl) dL_law_667 dL_law_668 dL_law_669 dL_law_670 dL_law_671 rfl rfl rfl rfl rfl rfl in1 rfl ?_
  refine lg_arg F C1 (lv_at hl 3 rfl) (lv_at hl 0 rfl) dL_law_672 dL_law_673 dL_law_674 dL_law_675 dL_law_676 rfl rfl rfl rfl rfl rfl in2 rfl ?_
  refine lg_arg F C1 (lv_at hl 3 rfl) (lv_at hl 0 rfl) dL_law_677 dL_law_678 dL_law_679 dL_law_680 dL_law_681 rfl rfl rfl rfl rfl rfl in3 rfl ?_
  refine lg_call (as1 := [.int (xs (i + Int32.ofInt 1).toNatClampNeg), .int (xs (i + Int32.ofInt 2).toNatClampNeg), .int (xs (i + Int32.ofInt 3).toNatClampNeg)]) (rest := []) (i0 := 60) (mj := 143) (d := 60) hTx F C1 hl.1 dL_law_682 lk_101 e2 (by decide) rfl rfl (rt_r (i := 60) (by omega) (rt_i (rt_i (rt_i rt_nil)))) rfl (Nat.le_of_ble_eq_true rfl) rfl (Nat.le_of_ble_eq_true rfl) rfl hR (fun H2 locs2 C2 => ?_)
  refine lv_pop hx hb dL_law_685 rfl ?_
  exact lv_goto (tgt := 743) hx hb dL_law_686 (by decide) (kk H2 locs2 pa1 h2 ln' C2 hI')
theorem lo_704 (hTx : qzTx l) (F : lgF p s m args c G D z0 S b L xs) (C : lgC G D z0 S s ad H locs (67, qzRr pa, h)) (hI : lwI pa h ln) (hl : lv_has lsS 8 [(3, .int i), (2, .ref (ad 60)), (1, .ref (ad 0)), (0, .ref b)]) (in1 : vp_in (i + Int32.ofInt 1) L) (in2 : vp_in (i + Int32.ofInt 2) L) (in3 : vp_in (i + Int32.ofInt 3) L) (hR : 60 + 13 ≤ R.frames ∧ 500 + 100 * 60 ≤ R.locals ∧ cells ≤ R.cells ∧ slots ≤ R.slots)
    (kk : ∀ (H1 : Heap) (locs1 : List Loc) (pa1 : Nat → Nat) (h1 : Nat → Nat → Int32) (ln1 : Nat), lgC G D z0 S s ad H1 locs1 (67, qzRr pa1, h1) → lwI pa1 h1 ln1 → W p l e R s m args below meth c H1 locs1 cells slots Q (F0 m 743 lsS [])) : W p l e R s m args below meth c H locs cells slots Q (F0 m 704 lsS []) := by
  obtain ⟨v, v', pa1, h1, h2, ln', e1, e2, hI', heq⟩ := lwO_undo hI 
  obtain ⟨hx, hb, -⟩ := id F
  refine lv_aload_n hx hb dL_law_704 rfl (lv_at hl 2 rfl) ?_
  refine lg_call (as1 := []) (rest := []) (i0 := 0) (mj := 47) (d := 60) hTx F C hl.1 dL_law_705 lk_107 e1 (by decide) rfl rfl (rt_r (i := 0) (by omega) rt_nil) rfl (Nat.le_of_ble_eq_true rfl) rfl (Nat.le_of_ble_eq_true rfl) rfl hR (fun H1 locs1 C1 => ?_)
  refine lv_pop hx hb dL_law_708 rfl ?_
  refine lv_aload_n hx hb dL_law_709 rfl (lv_at hl 1 rfl) ?_
  refine lg_call (as1 := []) (rest := []) (i0 := 60) (mj := 145) (d := 60) hTx F C1 hl.1 dL_law_710 lk_110 e2 (by decide) rfl rfl (rt_r (i := 60) (by omega) rt_nil) rfl (Nat.le_of_ble_eq_true rfl) rfl (Nat.le_of_ble_eq_true rfl) rfl hR (fun H2 locs2 C2 => ?_)
  refine lv_pop hx hb dL_law_713 rfl ?_
  exact lv_goto (tgt := 743) hx hb dL_law_714 (by decide) (kk H2 locs2 pa1 h2 ln' C2 hI')
theorem lo_717 (hTx : qzTx l) (F : lgF p s m args c G D z0 S b L xs) (C : lgC G D z0 S s ad H locs (67, qzRr pa, h)) (hI : lwI pa h ln) (hl : lv_has lsS 8 [(3, .int i), (2, .ref (ad 60)), (1, .ref (ad 0)), (0, .ref b)]) (in1 : vp_in (i + Int32.ofInt 1) L) (in2 : vp_in (i + Int32.ofInt 2) L) (in3 : vp_in (i + Int32.ofInt 3) L) (hR : 60 + 13 ≤ R.frames ∧ 500 + 100 * 60 ≤ R.locals ∧ cells ≤ R.cells ∧ slots ≤ R.slots)
    (kk : ∀ (H1 : Heap) (locs1 : List Loc) (pa1 : Nat → Nat) (h1 : Nat → Nat → Int32) (ln1 : Nat), lgC G D z0 S s ad H1 locs1 (67, qzRr pa1, h1) → lwI pa1 h1 ln1 → W p l e R s m args below meth c H1 locs1 cells slots Q (F0 m 743 lsS [])) : W p l e R s m args below meth c H locs cells slots Q (F0 m 717 lsS []) := by
  obtain ⟨v, v', pa1, h1, h2, ln', e1, e2, hI', heq⟩ := lwO_save hI 
  obtain ⟨hx, hb, -⟩ := id F
  refine lv_aload_n hx hb dL_law_717 rfl (lv_at hl 2 rfl) ?_
  refine lg_call (as1 := []) (rest := []) (i0 := 0) (mj := 48) (d := 60) hTx F C hl.1 dL_law_718 lk_111 e1 (by decide) rfl rfl (rt_r (i := 0) (by omega) rt_nil) rfl (Nat.le_of_ble_eq_true rfl) rfl (Nat.le_of_ble_eq_true rfl) rfl hR (fun H1 locs1 C1 => ?_)
  refine lv_pop hx hb dL_law_721 rfl ?_
  refine lv_aload_n hx hb dL_law_722 rfl (lv_at hl 1 rfl) ?_
  refine lg_call (as1 := []) (rest := []) (i0 := 60) (mj := 146) (d := 60) hTx F C1 hl.1 dL_law_723 lk_114 e2 (by decide) rfl rfl (rt_r (i := 60) (by omega) rt_nil) rfl (Nat.le_of_ble_eq_true rfl) rfl (Nat.le_of_ble_eq_true rfl) rfl hR (fun H2 locs2 C2 => ?_)
  refine lv_pop hx hb dL_law_726 rfl ?_
  exact lv_goto (tgt := 743) hx hb dL_law_727 (by decide) (kk H2 locs2 pa1 h2 ln' C2 hI')
theorem lo_730 (hTx : qzTx l) (F : lgF p s m args c G D z0 S b L xs) (C : lgC G D z0 S s ad H locs (67, qzRr pa, h)) (hI : lwI pa h ln) (hl : lv_has lsS 8 [(3, .int i), (2, .ref (ad 60)), (1, .ref (ad 0)), (0, .ref b)]) (in1 : vp_in (i + Int32.ofInt 1) L) (in2 : vp_in (i + Int32.ofInt 2) L) (in3 : vp_in (i + Int32.ofInt 3) L) (hR : 60 + 13 ≤ R.frames ∧ 500 + 100 * 60 ≤ R.locals ∧ cells ≤ R.cells ∧ slots ≤ R.slots)
    (kk : ∀ (H1 : Heap) (locs1 : List Loc) (pa1 : Nat → Nat) (h1 : Nat → Nat → Int32) (ln1 : Nat), lgC G D z0 S s ad H1 locs1 (67, qzRr pa1, h1) → lwI pa1 h1 ln1 → W p l e R s m args below meth c H1 locs1 cells slots Q (F0 m 743 lsS [])) : W p l e R s m args below meth c H locs cells slots Q (F0 m 730 lsS []) := by
  obtain ⟨v, v', pa1, h1, h2, ln', e1, e2, hI', heq⟩ := lwO_restore hI 
  obtain ⟨hx, hb, -⟩ := id F
  have hv : v = v' := heq trivial
  refine lv_aload_n hx hb dL_law_730 rfl (lv_at hl 2 rfl) ?_
  refine lg_call (as1 := []) (rest := []) (i0 := 0) (mj := 49) (d := 60) hTx F C hl.1 dL_law_731 lk_115 e1 (by decide) rfl rfl (rt_r (i := 0) (by omega) rt_nil) rfl (Nat.le_of_ble_eq_true rfl) rfl (Nat.le_of_ble_eq_true rfl) rfl hR (fun H1 locs1 C1 => ?_)
  refine lv_aload_n hx hb dL_law_734 rfl (lv_at hl 1 rfl) ?_
  refine lg_call (as1 := []) (rest := [.int v]) (i0 := 60) (mj := 147) (d := 60) hTx F C1 hl.1 dL_law_735 lk_118 e2 (by decide) rfl rfl (rt_r (i := 60) (by omega) rt_nil) rfl (Nat.le_of_ble_eq_true rfl) rfl (Nat.le_of_ble_eq_true rfl) rfl hR (fun H2 locs2 C2 => ?_)
  exact lv_icmp_eq (tgt := 743) hx hb dL_law_738 (by decide) (fun _ => kk H2 locs2 pa1 h2 ln' C2 hI') (fun hne => absurd hv hne)
end LG2
