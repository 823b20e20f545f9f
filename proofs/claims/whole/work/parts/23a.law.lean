/-! the law, case by case -/
theorem dl_160 : decode code 160 = .ok (.aload_n 1, 1) := by decide +kernel
theorem dl_161 : decode code 161 = .ok (.aload_n 0, 1) := by decide +kernel
theorem dl_162 : decode code 162 = .ok (.iload 4, 2) := by decide +kernel
theorem dl_164 : decode code 164 = .ok (.iconst 1, 1) := by decide +kernel
theorem dl_165 : decode code 165 = .ok (.iadd, 1) := by decide +kernel
theorem dl_166 : decode code 166 = .ok (.iaload, 1) := by decide +kernel
theorem dl_167 : decode code 167 = .ok (.aload_n 0, 1) := by decide +kernel
theorem dl_168 : decode code 168 = .ok (.iload 4, 2) := by decide +kernel
theorem dl_170 : decode code 170 = .ok (.iconst 2, 1) := by decide +kernel
theorem dl_171 : decode code 171 = .ok (.iadd, 1) := by decide +kernel
theorem dl_172 : decode code 172 = .ok (.iaload, 1) := by decide +kernel
theorem dl_173 : decode code 173 = .ok (.aload_n 0, 1) := by decide +kernel
theorem dl_174 : decode code 174 = .ok (.iload 4, 2) := by decide +kernel
theorem dl_176 : decode code 176 = .ok (.iconst 3, 1) := by decide +kernel
theorem dl_177 : decode code 177 = .ok (.iadd, 1) := by decide +kernel
theorem dl_178 : decode code 178 = .ok (.iaload, 1) := by decide +kernel
theorem dl_179 : decode code 179 = .ok (.aload_n 0, 1) := by decide +kernel
theorem dl_180 : decode code 180 = .ok (.iload 4, 2) := by decide +kernel
theorem dl_182 : decode code 182 = .ok (.iconst 4, 1) := by decide +kernel
theorem dl_183 : decode code 183 = .ok (.iadd, 1) := by decide +kernel
theorem dl_184 : decode code 184 = .ok (.iaload, 1) := by decide +kernel
theorem dl_185 : decode code 185 = .ok (.aload_n 0, 1) := by decide +kernel
theorem dl_186 : decode code 186 = .ok (.iload 4, 2) := by decide +kernel
theorem dl_188 : decode code 188 = .ok (.iconst 5, 1) := by decide +kernel
theorem dl_189 : decode code 189 = .ok (.iadd, 1) := by decide +kernel
theorem dl_190 : decode code 190 = .ok (.iaload, 1) := by decide +kernel
theorem dl_191 : decode code 191 = .ok (.invokevirtual 19, 3) := by decide +kernel
theorem dl_194 : decode code 194 = .ok (.aload_n 2, 1) := by decide +kernel
theorem dl_195 : decode code 195 = .ok (.aload_n 0, 1) := by decide +kernel
theorem dl_196 : decode code 196 = .ok (.iload 4, 2) := by decide +kernel
theorem dl_198 : decode code 198 = .ok (.iconst 1, 1) := by decide +kernel
theorem dl_199 : decode code 199 = .ok (.iadd, 1) := by decide +kernel
theorem dl_200 : decode code 200 = .ok (.iaload, 1) := by decide +kernel
theorem dl_201 : decode code 201 = .ok (.aload_n 0, 1) := by decide +kernel
theorem dl_202 : decode code 202 = .ok (.iload 4, 2) := by decide +kernel
theorem dl_204 : decode code 204 = .ok (.iconst 2, 1) := by decide +kernel
theorem dl_205 : decode code 205 = .ok (.iadd, 1) := by decide +kernel
theorem dl_206 : decode code 206 = .ok (.iaload, 1) := by decide +kernel
theorem dl_207 : decode code 207 = .ok (.aload_n 0, 1) := by decide +kernel
theorem dl_208 : decode code 208 = .ok (.iload 4, 2) := by decide +kernel
theorem dl_210 : decode code 210 = .ok (.iconst 3, 1) := by decide +kernel
theorem dl_211 : decode code 211 = .ok (.iadd, 1) := by decide +kernel
theorem dl_212 : decode code 212 = .ok (.iaload, 1) := by decide +kernel
theorem dl_213 : decode code 213 = .ok (.aload_n 0, 1) := by decide +kernel
theorem dl_214 : decode code 214 = .ok (.iload 4, 2) := by decide +kernel
theorem dl_216 : decode code 216 = .ok (.iconst 4, 1) := by decide +kernel
theorem dl_217 : decode code 217 = .ok (.iadd, 1) := by decide +kernel
theorem dl_218 : decode code 218 = .ok (.iaload, 1) := by decide +kernel
theorem dl_219 : decode code 219 = .ok (.aload_n 0, 1) := by decide +kernel
theorem dl_220 : decode code 220 = .ok (.iload 4, 2) := by decide +kernel
theorem dl_222 : decode code 222 = .ok (.iconst 5, 1) := by decide +kernel
theorem dl_223 : decode code 223 = .ok (.iadd, 1) := by decide +kernel
theorem dl_224 : decode code 224 = .ok (.iaload, 1) := by decide +kernel
theorem dl_225 : decode code 225 = .ok (.invokevirtual 23, 3) := by decide +kernel
theorem dl_228 : decode code 228 = .ok (.if_icmp .eq 841, 3) := by decide +kernel
theorem dl_233 : decode code 233 = .ok (.aload_n 1, 1) := by decide +kernel
theorem dl_234 : decode code 234 = .ok (.aload_n 0, 1) := by decide +kernel
theorem dl_235 : decode code 235 = .ok (.iload 4, 2) := by decide +kernel
theorem dl_237 : decode code 237 = .ok (.iconst 1, 1) := by decide +kernel
theorem dl_238 : decode code 238 = .ok (.iadd, 1) := by decide +kernel
theorem dl_239 : decode code 239 = .ok (.iaload, 1) := by decide +kernel
theorem dl_240 : decode code 240 = .ok (.invokevirtual 24, 3) := by decide +kernel
theorem dl_243 : decode code 243 = .ok (.aload_n 2, 1) := by decide +kernel
theorem dl_244 : decode code 244 = .ok (.aload_n 0, 1) := by decide +kernel
theorem dl_245 : decode code 245 = .ok (.iload 4, 2) := by decide +kernel
theorem dl_247 : decode code 247 = .ok (.iconst 1, 1) := by decide +kernel
theorem dl_248 : decode code 248 = .ok (.iadd, 1) := by decide +kernel
theorem dl_249 : decode code 249 = .ok (.iaload, 1) := by decide +kernel
theorem dl_250 : decode code 250 = .ok (.invokevirtual 28, 3) := by decide +kernel
theorem dl_253 : decode code 253 = .ok (.if_icmp .eq 816, 3) := by decide +kernel
theorem dl_258 : decode code 258 = .ok (.aload_n 1, 1) := by decide +kernel
theorem dl_259 : decode code 259 = .ok (.aload_n 0, 1) := by decide +kernel
theorem dl_260 : decode code 260 = .ok (.iload 4, 2) := by decide +kernel
theorem dl_262 : decode code 262 = .ok (.iconst 1, 1) := by decide +kernel
theorem dl_263 : decode code 263 = .ok (.iadd, 1) := by decide +kernel
theorem dl_264 : decode code 264 = .ok (.iaload, 1) := by decide +kernel
theorem dl_265 : decode code 265 = .ok (.invokevirtual 29, 3) := by decide +kernel
theorem dl_268 : decode code 268 = .ok (.aload_n 2, 1) := by decide +kernel
theorem dl_269 : decode code 269 = .ok (.aload_n 0, 1) := by decide +kernel
theorem dl_270 : decode code 270 = .ok (.iload 4, 2) := by decide +kernel
theorem dl_272 : decode code 272 = .ok (.iconst 1, 1) := by decide +kernel
theorem dl_273 : decode code 273 = .ok (.iadd, 1) := by decide +kernel
theorem dl_274 : decode code 274 = .ok (.iaload, 1) := by decide +kernel
theorem dl_275 : decode code 275 = .ok (.invokevirtual 32, 3) := by decide +kernel
theorem dl_278 : decode code 278 = .ok (.if_icmp .eq 791, 3) := by decide +kernel
theorem dl_283 : decode code 283 = .ok (.aload_n 1, 1) := by decide +kernel
theorem dl_284 : decode code 284 = .ok (.aload_n 0, 1) := by decide +kernel
theorem dl_285 : decode code 285 = .ok (.iload 4, 2) := by decide +kernel
theorem dl_287 : decode code 287 = .ok (.iconst 1, 1) := by decide +kernel
theorem dl_288 : decode code 288 = .ok (.iadd, 1) := by decide +kernel
theorem dl_289 : decode code 289 = .ok (.iaload, 1) := by decide +kernel
theorem dl_290 : decode code 290 = .ok (.aload_n 0, 1) := by decide +kernel
theorem dl_291 : decode code 291 = .ok (.iload 4, 2) := by decide +kernel
theorem dl_293 : decode code 293 = .ok (.iconst 2, 1) := by decide +kernel
theorem dl_294 : decode code 294 = .ok (.iadd, 1) := by decide +kernel
theorem dl_295 : decode code 295 = .ok (.iaload, 1) := by decide +kernel
theorem dl_296 : decode code 296 = .ok (.aload_n 0, 1) := by decide +kernel
theorem dl_297 : decode code 297 = .ok (.iload 4, 2) := by decide +kernel
theorem dl_299 : decode code 299 = .ok (.iconst 3, 1) := by decide +kernel
theorem dl_300 : decode code 300 = .ok (.iadd, 1) := by decide +kernel
theorem dl_301 : decode code 301 = .ok (.iaload, 1) := by decide +kernel
theorem dl_302 : decode code 302 = .ok (.invokevirtual 33, 3) := by decide +kernel
theorem dl_305 : decode code 305 = .ok (.aload_n 2, 1) := by decide +kernel
theorem dl_306 : decode code 306 = .ok (.aload_n 0, 1) := by decide +kernel
theorem dl_307 : decode code 307 = .ok (.iload 4, 2) := by decide +kernel
theorem dl_309 : decode code 309 = .ok (.iconst 1, 1) := by decide +kernel
theorem dl_310 : decode code 310 = .ok (.iadd, 1) := by decide +kernel
theorem dl_311 : decode code 311 = .ok (.iaload, 1) := by decide +kernel
theorem dl_312 : decode code 312 = .ok (.aload_n 0, 1) := by decide +kernel
theorem dl_313 : decode code 313 = .ok (.iload 4, 2) := by decide +kernel
theorem dl_315 : decode code 315 = .ok (.iconst 2, 1) := by decide +kernel
theorem dl_316 : decode code 316 = .ok (.iadd, 1) := by decide +kernel
theorem dl_317 : decode code 317 = .ok (.iaload, 1) := by decide +kernel
theorem dl_318 : decode code 318 = .ok (.aload_n 0, 1) := by decide +kernel
theorem dl_319 : decode code 319 = .ok (.iload 4, 2) := by decide +kernel
theorem dl_321 : decode code 321 = .ok (.iconst 3, 1) := by decide +kernel
theorem dl_322 : decode code 322 = .ok (.iadd, 1) := by decide +kernel
theorem dl_323 : decode code 323 = .ok (.iaload, 1) := by decide +kernel
theorem dl_324 : decode code 324 = .ok (.invokevirtual 37, 3) := by decide +kernel
theorem dl_327 : decode code 327 = .ok (.if_icmp .eq 742, 3) := by decide +kernel
theorem dl_332 : decode code 332 = .ok (.aload_n 1, 1) := by decide +kernel
theorem dl_333 : decode code 333 = .ok (.aload_n 0, 1) := by decide +kernel
theorem dl_334 : decode code 334 = .ok (.iload 4, 2) := by decide +kernel
theorem dl_336 : decode code 336 = .ok (.iconst 1, 1) := by decide +kernel
theorem dl_337 : decode code 337 = .ok (.iadd, 1) := by decide +kernel
theorem dl_338 : decode code 338 = .ok (.iaload, 1) := by decide +kernel
theorem dl_339 : decode code 339 = .ok (.aload_n 0, 1) := by decide +kernel
theorem dl_340 : decode code 340 = .ok (.iload 4, 2) := by decide +kernel
theorem dl_342 : decode code 342 = .ok (.iconst 2, 1) := by decide +kernel
theorem dl_343 : decode code 343 = .ok (.iadd, 1) := by decide +kernel
theorem dl_344 : decode code 344 = .ok (.iaload, 1) := by decide +kernel
theorem dl_345 : decode code 345 = .ok (.invokevirtual 38, 3) := by decide +kernel
theorem dl_348 : decode code 348 = .ok (.aload_n 2, 1) := by decide +kernel
theorem dl_349 : decode code 349 = .ok (.aload_n 0, 1) := by decide +kernel
theorem dl_350 : decode code 350 = .ok (.iload 4, 2) := by decide +kernel
theorem dl_352 : decode code 352 = .ok (.iconst 1, 1) := by decide +kernel
theorem dl_353 : decode code 353 = .ok (.iadd, 1) := by decide +kernel
theorem dl_354 : decode code 354 = .ok (.iaload, 1) := by decide +kernel
theorem dl_355 : decode code 355 = .ok (.aload_n 0, 1) := by decide +kernel
theorem dl_356 : decode code 356 = .ok (.iload 4, 2) := by decide +kernel
theorem dl_358 : decode code 358 = .ok (.iconst 2, 1) := by decide +kernel
theorem dl_359 : decode code 359 = .ok (.iadd, 1) := by decide +kernel
theorem dl_360 : decode code 360 = .ok (.iaload, 1) := by decide +kernel
theorem dl_361 : decode code 361 = .ok (.invokevirtual 41, 3) := by decide +kernel
theorem dl_364 : decode code 364 = .ok (.if_icmp .eq 705, 3) := by decide +kernel
theorem dl_369 : decode code 369 = .ok (.aload_n 1, 1) := by decide +kernel
theorem dl_370 : decode code 370 = .ok (.aload_n 0, 1) := by decide +kernel
theorem dl_371 : decode code 371 = .ok (.iload 4, 2) := by decide +kernel
theorem dl_373 : decode code 373 = .ok (.iconst 1, 1) := by decide +kernel
theorem dl_374 : decode code 374 = .ok (.iadd, 1) := by decide +kernel
theorem dl_375 : decode code 375 = .ok (.iaload, 1) := by decide +kernel
theorem dl_376 : decode code 376 = .ok (.invokevirtual 42, 3) := by decide +kernel
theorem dl_379 : decode code 379 = .ok (.aload_n 2, 1) := by decide +kernel
theorem dl_380 : decode code 380 = .ok (.aload_n 0, 1) := by decide +kernel
theorem dl_381 : decode code 381 = .ok (.iload 4, 2) := by decide +kernel
theorem dl_383 : decode code 383 = .ok (.iconst 1, 1) := by decide +kernel
theorem dl_384 : decode code 384 = .ok (.iadd, 1) := by decide +kernel
theorem dl_385 : decode code 385 = .ok (.iaload, 1) := by decide +kernel
theorem dl_386 : decode code 386 = .ok (.invokevirtual 45, 3) := by decide +kernel
theorem dl_389 : decode code 389 = .ok (.if_icmp .eq 680, 3) := by decide +kernel
theorem dl_394 : decode code 394 = .ok (.aload_n 1, 1) := by decide +kernel
theorem dl_395 : decode code 395 = .ok (.aload_n 0, 1) := by decide +kernel
theorem dl_396 : decode code 396 = .ok (.iload 4, 2) := by decide +kernel
theorem dl_398 : decode code 398 = .ok (.iconst 1, 1) := by decide +kernel
theorem dl_399 : decode code 399 = .ok (.iadd, 1) := by decide +kernel
theorem dl_400 : decode code 400 = .ok (.iaload, 1) := by decide +kernel
theorem dl_401 : decode code 401 = .ok (.aload_n 0, 1) := by decide +kernel
theorem dl_402 : decode code 402 = .ok (.iload 4, 2) := by decide +kernel
theorem dl_404 : decode code 404 = .ok (.iconst 2, 1) := by decide +kernel
theorem dl_405 : decode code 405 = .ok (.iadd, 1) := by decide +kernel
theorem dl_406 : decode code 406 = .ok (.iaload, 1) := by decide +kernel
theorem dl_407 : decode code 407 = .ok (.invokevirtual 46, 3) := by decide +kernel
theorem dl_410 : decode code 410 = .ok (.aload_n 2, 1) := by decide +kernel
theorem dl_411 : decode code 411 = .ok (.aload_n 0, 1) := by decide +kernel
theorem dl_412 : decode code 412 = .ok (.iload 4, 2) := by decide +kernel
theorem dl_414 : decode code 414 = .ok (.iconst 1, 1) := by decide +kernel
theorem dl_415 : decode code 415 = .ok (.iadd, 1) := by decide +kernel
theorem dl_416 : decode code 416 = .ok (.iaload, 1) := by decide +kernel
theorem dl_417 : decode code 417 = .ok (.aload_n 0, 1) := by decide +kernel
theorem dl_418 : decode code 418 = .ok (.iload 4, 2) := by decide +kernel
theorem dl_420 : decode code 420 = .ok (.iconst 2, 1) := by decide +kernel
theorem dl_421 : decode code 421 = .ok (.iadd, 1) := by decide +kernel
theorem dl_422 : decode code 422 = .ok (.iaload, 1) := by decide +kernel
theorem dl_423 : decode code 423 = .ok (.invokevirtual 49, 3) := by decide +kernel
theorem dl_426 : decode code 426 = .ok (.if_icmp .eq 643, 3) := by decide +kernel
theorem dl_431 : decode code 431 = .ok (.aload_n 1, 1) := by decide +kernel
theorem dl_432 : decode code 432 = .ok (.aload_n 0, 1) := by decide +kernel
theorem dl_433 : decode code 433 = .ok (.iload 4, 2) := by decide +kernel
theorem dl_435 : decode code 435 = .ok (.iconst 1, 1) := by decide +kernel
theorem dl_436 : decode code 436 = .ok (.iadd, 1) := by decide +kernel
theorem dl_437 : decode code 437 = .ok (.iaload, 1) := by decide +kernel
theorem dl_438 : decode code 438 = .ok (.aload_n 0, 1) := by decide +kernel
theorem dl_439 : decode code 439 = .ok (.iload 4, 2) := by decide +kernel
theorem dl_441 : decode code 441 = .ok (.iconst 2, 1) := by decide +kernel
theorem dl_442 : decode code 442 = .ok (.iadd, 1) := by decide +kernel
theorem dl_443 : decode code 443 = .ok (.iaload, 1) := by decide +kernel
theorem dl_444 : decode code 444 = .ok (.invokevirtual 50, 3) := by decide +kernel
theorem dl_447 : decode code 447 = .ok (.aload_n 2, 1) := by decide +kernel
theorem dl_448 : decode code 448 = .ok (.aload_n 0, 1) := by decide +kernel
theorem dl_449 : decode code 449 = .ok (.iload 4, 2) := by decide +kernel
theorem dl_451 : decode code 451 = .ok (.iconst 1, 1) := by decide +kernel
theorem dl_452 : decode code 452 = .ok (.iadd, 1) := by decide +kernel
theorem dl_453 : decode code 453 = .ok (.iaload, 1) := by decide +kernel
theorem dl_454 : decode code 454 = .ok (.aload_n 0, 1) := by decide +kernel
theorem dl_455 : decode code 455 = .ok (.iload 4, 2) := by decide +kernel
theorem dl_457 : decode code 457 = .ok (.iconst 2, 1) := by decide +kernel
theorem dl_458 : decode code 458 = .ok (.iadd, 1) := by decide +kernel
theorem dl_459 : decode code 459 = .ok (.iaload, 1) := by decide +kernel
theorem dl_460 : decode code 460 = .ok (.invokevirtual 53, 3) := by decide +kernel
theorem dl_463 : decode code 463 = .ok (.if_icmp .eq 606, 3) := by decide +kernel
theorem dl_468 : decode code 468 = .ok (.aload_n 1, 1) := by decide +kernel
theorem dl_469 : decode code 469 = .ok (.aload_n 0, 1) := by decide +kernel
theorem dl_470 : decode code 470 = .ok (.iload 4, 2) := by decide +kernel
theorem dl_472 : decode code 472 = .ok (.iconst 1, 1) := by decide +kernel
theorem dl_473 : decode code 473 = .ok (.iadd, 1) := by decide +kernel
theorem dl_474 : decode code 474 = .ok (.iaload, 1) := by decide +kernel
theorem dl_475 : decode code 475 = .ok (.aload_n 0, 1) := by decide +kernel
theorem dl_476 : decode code 476 = .ok (.iload 4, 2) := by decide +kernel
theorem dl_478 : decode code 478 = .ok (.iconst 2, 1) := by decide +kernel
theorem dl_479 : decode code 479 = .ok (.iadd, 1) := by decide +kernel
theorem dl_480 : decode code 480 = .ok (.iaload, 1) := by decide +kernel
theorem dl_481 : decode code 481 = .ok (.invokevirtual 54, 3) := by decide +kernel
theorem dl_484 : decode code 484 = .ok (.aload_n 2, 1) := by decide +kernel
theorem dl_485 : decode code 485 = .ok (.aload_n 0, 1) := by decide +kernel
theorem dl_486 : decode code 486 = .ok (.iload 4, 2) := by decide +kernel
theorem dl_488 : decode code 488 = .ok (.iconst 1, 1) := by decide +kernel
theorem dl_489 : decode code 489 = .ok (.iadd, 1) := by decide +kernel
theorem dl_490 : decode code 490 = .ok (.iaload, 1) := by decide +kernel
theorem dl_491 : decode code 491 = .ok (.aload_n 0, 1) := by decide +kernel
theorem dl_492 : decode code 492 = .ok (.iload 4, 2) := by decide +kernel
theorem dl_494 : decode code 494 = .ok (.iconst 2, 1) := by decide +kernel
theorem dl_495 : decode code 495 = .ok (.iadd, 1) := by decide +kernel
theorem dl_496 : decode code 496 = .ok (.iaload, 1) := by decide +kernel
theorem dl_497 : decode code 497 = .ok (.invokevirtual 57, 3) := by decide +kernel
theorem dl_500 : decode code 500 = .ok (.if_icmp .eq 569, 3) := by decide +kernel
theorem dl_505 : decode code 505 = .ok (.aload_n 1, 1) := by decide +kernel
theorem dl_506 : decode code 506 = .ok (.aload_n 0, 1) := by decide +kernel
theorem dl_507 : decode code 507 = .ok (.iload 4, 2) := by decide +kernel
theorem dl_509 : decode code 509 = .ok (.iconst 1, 1) := by decide +kernel
theorem dl_510 : decode code 510 = .ok (.iadd, 1) := by decide +kernel
theorem dl_511 : decode code 511 = .ok (.iaload, 1) := by decide +kernel
theorem dl_512 : decode code 512 = .ok (.aload_n 0, 1) := by decide +kernel
theorem dl_513 : decode code 513 = .ok (.iload 4, 2) := by decide +kernel
theorem dl_515 : decode code 515 = .ok (.iconst 2, 1) := by decide +kernel
theorem dl_516 : decode code 516 = .ok (.iadd, 1) := by decide +kernel
theorem dl_517 : decode code 517 = .ok (.iaload, 1) := by decide +kernel
theorem dl_518 : decode code 518 = .ok (.invokevirtual 58, 3) := by decide +kernel
theorem dl_521 : decode code 521 = .ok (.aload_n 2, 1) := by decide +kernel
theorem dl_522 : decode code 522 = .ok (.aload_n 0, 1) := by decide +kernel
theorem dl_523 : decode code 523 = .ok (.iload 4, 2) := by decide +kernel
theorem dl_525 : decode code 525 = .ok (.iconst 1, 1) := by decide +kernel
theorem dl_526 : decode code 526 = .ok (.iadd, 1) := by decide +kernel
theorem dl_527 : decode code 527 = .ok (.iaload, 1) := by decide +kernel
theorem dl_528 : decode code 528 = .ok (.aload_n 0, 1) := by decide +kernel
theorem dl_529 : decode code 529 = .ok (.iload 4, 2) := by decide +kernel
theorem dl_531 : decode code 531 = .ok (.iconst 2, 1) := by decide +kernel
theorem dl_532 : decode code 532 = .ok (.iadd, 1) := by decide +kernel
theorem dl_533 : decode code 533 = .ok (.iaload, 1) := by decide +kernel
theorem dl_534 : decode code 534 = .ok (.invokevirtual 61, 3) := by decide +kernel
theorem dl_537 : decode code 537 = .ok (.if_icmp .eq 532, 3) := by decide +kernel
theorem dl_542 : decode code 542 = .ok (.aload_n 1, 1) := by decide +kernel
theorem dl_543 : decode code 543 = .ok (.aload_n 0, 1) := by decide +kernel
theorem dl_544 : decode code 544 = .ok (.iload 4, 2) := by decide +kernel
theorem dl_546 : decode code 546 = .ok (.iconst 1, 1) := by decide +kernel
theorem dl_547 : decode code 547 = .ok (.iadd, 1) := by decide +kernel
theorem dl_548 : decode code 548 = .ok (.iaload, 1) := by decide +kernel
theorem dl_549 : decode code 549 = .ok (.aload_n 0, 1) := by decide +kernel
theorem dl_550 : decode code 550 = .ok (.iload 4, 2) := by decide +kernel
theorem dl_552 : decode code 552 = .ok (.iconst 2, 1) := by decide +kernel
theorem dl_553 : decode code 553 = .ok (.iadd, 1) := by decide +kernel
theorem dl_554 : decode code 554 = .ok (.iaload, 1) := by decide +kernel
theorem dl_555 : decode code 555 = .ok (.aload_n 0, 1) := by decide +kernel
theorem dl_556 : decode code 556 = .ok (.iload 4, 2) := by decide +kernel
theorem dl_558 : decode code 558 = .ok (.iconst 3, 1) := by decide +kernel
theorem dl_559 : decode code 559 = .ok (.iadd, 1) := by decide +kernel
theorem dl_560 : decode code 560 = .ok (.iaload, 1) := by decide +kernel
theorem dl_561 : decode code 561 = .ok (.invokevirtual 62, 3) := by decide +kernel
theorem dl_564 : decode code 564 = .ok (.aload_n 2, 1) := by decide +kernel
theorem dl_565 : decode code 565 = .ok (.aload_n 0, 1) := by decide +kernel
theorem dl_566 : decode code 566 = .ok (.iload 4, 2) := by decide +kernel
theorem dl_568 : decode code 568 = .ok (.iconst 1, 1) := by decide +kernel
theorem dl_569 : decode code 569 = .ok (.iadd, 1) := by decide +kernel
theorem dl_570 : decode code 570 = .ok (.iaload, 1) := by decide +kernel
theorem dl_571 : decode code 571 = .ok (.aload_n 0, 1) := by decide +kernel
theorem dl_572 : decode code 572 = .ok (.iload 4, 2) := by decide +kernel
theorem dl_574 : decode code 574 = .ok (.iconst 2, 1) := by decide +kernel
theorem dl_575 : decode code 575 = .ok (.iadd, 1) := by decide +kernel
theorem dl_576 : decode code 576 = .ok (.iaload, 1) := by decide +kernel
theorem dl_577 : decode code 577 = .ok (.aload_n 0, 1) := by decide +kernel
theorem dl_578 : decode code 578 = .ok (.iload 4, 2) := by decide +kernel
theorem dl_580 : decode code 580 = .ok (.iconst 3, 1) := by decide +kernel
theorem dl_581 : decode code 581 = .ok (.iadd, 1) := by decide +kernel
theorem dl_582 : decode code 582 = .ok (.iaload, 1) := by decide +kernel
theorem dl_583 : decode code 583 = .ok (.invokevirtual 65, 3) := by decide +kernel
theorem dl_586 : decode code 586 = .ok (.if_icmp .eq 483, 3) := by decide +kernel
theorem dl_591 : decode code 591 = .ok (.aload_n 1, 1) := by decide +kernel
theorem dl_592 : decode code 592 = .ok (.invokevirtual 66, 3) := by decide +kernel
theorem dl_595 : decode code 595 = .ok (.aload_n 2, 1) := by decide +kernel
theorem dl_596 : decode code 596 = .ok (.invokevirtual 70, 3) := by decide +kernel
theorem dl_599 : decode code 599 = .ok (.if_icmp .eq 470, 3) := by decide +kernel
theorem dl_672 : decode code 672 = .ok (.aload_n 1, 1) := by decide +kernel
theorem dl_673 : decode code 673 = .ok (.aload_n 0, 1) := by decide +kernel
theorem dl_674 : decode code 674 = .ok (.iload 4, 2) := by decide +kernel
theorem dl_676 : decode code 676 = .ok (.iconst 1, 1) := by decide +kernel
theorem dl_677 : decode code 677 = .ok (.iadd, 1) := by decide +kernel
theorem dl_678 : decode code 678 = .ok (.iaload, 1) := by decide +kernel
theorem dl_679 : decode code 679 = .ok (.aload_n 0, 1) := by decide +kernel
theorem dl_680 : decode code 680 = .ok (.iload 4, 2) := by decide +kernel
theorem dl_682 : decode code 682 = .ok (.iconst 2, 1) := by decide +kernel
theorem dl_683 : decode code 683 = .ok (.iadd, 1) := by decide +kernel
theorem dl_684 : decode code 684 = .ok (.iaload, 1) := by decide +kernel
theorem dl_685 : decode code 685 = .ok (.invokevirtual 80, 3) := by decide +kernel
theorem dl_688 : decode code 688 = .ok (.aload_n 2, 1) := by decide +kernel
theorem dl_689 : decode code 689 = .ok (.aload_n 0, 1) := by decide +kernel
theorem dl_690 : decode code 690 = .ok (.iload 4, 2) := by decide +kernel
theorem dl_692 : decode code 692 = .ok (.iconst 1, 1) := by decide +kernel
theorem dl_693 : decode code 693 = .ok (.iadd, 1) := by decide +kernel
theorem dl_694 : decode code 694 = .ok (.iaload, 1) := by decide +kernel
theorem dl_695 : decode code 695 = .ok (.aload_n 0, 1) := by decide +kernel
theorem dl_696 : decode code 696 = .ok (.iload 4, 2) := by decide +kernel
theorem dl_698 : decode code 698 = .ok (.iconst 2, 1) := by decide +kernel
theorem dl_699 : decode code 699 = .ok (.iadd, 1) := by decide +kernel
theorem dl_700 : decode code 700 = .ok (.iaload, 1) := by decide +kernel
theorem dl_701 : decode code 701 = .ok (.invokevirtual 83, 3) := by decide +kernel
theorem dl_704 : decode code 704 = .ok (.if_icmp .eq 365, 3) := by decide +kernel
theorem dl_709 : decode code 709 = .ok (.aload_n 1, 1) := by decide +kernel
theorem dl_710 : decode code 710 = .ok (.aload_n 0, 1) := by decide +kernel
theorem dl_711 : decode code 711 = .ok (.iload 4, 2) := by decide +kernel
theorem dl_713 : decode code 713 = .ok (.iconst 1, 1) := by decide +kernel
theorem dl_714 : decode code 714 = .ok (.iadd, 1) := by decide +kernel
theorem dl_715 : decode code 715 = .ok (.iaload, 1) := by decide +kernel
theorem dl_716 : decode code 716 = .ok (.aload_n 0, 1) := by decide +kernel
theorem dl_717 : decode code 717 = .ok (.iload 4, 2) := by decide +kernel
theorem dl_719 : decode code 719 = .ok (.iconst 2, 1) := by decide +kernel
theorem dl_720 : decode code 720 = .ok (.iadd, 1) := by decide +kernel
theorem dl_721 : decode code 721 = .ok (.iaload, 1) := by decide +kernel
theorem dl_722 : decode code 722 = .ok (.invokevirtual 84, 3) := by decide +kernel
theorem dl_725 : decode code 725 = .ok (.aload_n 2, 1) := by decide +kernel
theorem dl_726 : decode code 726 = .ok (.aload_n 0, 1) := by decide +kernel
theorem dl_727 : decode code 727 = .ok (.iload 4, 2) := by decide +kernel
theorem dl_729 : decode code 729 = .ok (.iconst 1, 1) := by decide +kernel
theorem dl_730 : decode code 730 = .ok (.iadd, 1) := by decide +kernel
theorem dl_731 : decode code 731 = .ok (.iaload, 1) := by decide +kernel
theorem dl_732 : decode code 732 = .ok (.aload_n 0, 1) := by decide +kernel
theorem dl_733 : decode code 733 = .ok (.iload 4, 2) := by decide +kernel
theorem dl_735 : decode code 735 = .ok (.iconst 2, 1) := by decide +kernel
theorem dl_736 : decode code 736 = .ok (.iadd, 1) := by decide +kernel
theorem dl_737 : decode code 737 = .ok (.iaload, 1) := by decide +kernel
theorem dl_738 : decode code 738 = .ok (.invokevirtual 87, 3) := by decide +kernel
theorem dl_741 : decode code 741 = .ok (.if_icmp .eq 328, 3) := by decide +kernel
theorem dl_746 : decode code 746 = .ok (.aload_n 1, 1) := by decide +kernel
theorem dl_747 : decode code 747 = .ok (.aload_n 0, 1) := by decide +kernel
theorem dl_748 : decode code 748 = .ok (.iload 4, 2) := by decide +kernel
theorem dl_750 : decode code 750 = .ok (.iconst 1, 1) := by decide +kernel
theorem dl_751 : decode code 751 = .ok (.iadd, 1) := by decide +kernel
theorem dl_752 : decode code 752 = .ok (.iaload, 1) := by decide +kernel
theorem dl_753 : decode code 753 = .ok (.invokevirtual 88, 3) := by decide +kernel
theorem dl_756 : decode code 756 = .ok (.aload_n 2, 1) := by decide +kernel
theorem dl_757 : decode code 757 = .ok (.aload_n 0, 1) := by decide +kernel
theorem dl_758 : decode code 758 = .ok (.iload 4, 2) := by decide +kernel
theorem dl_760 : decode code 760 = .ok (.iconst 1, 1) := by decide +kernel
theorem dl_761 : decode code 761 = .ok (.iadd, 1) := by decide +kernel
theorem dl_762 : decode code 762 = .ok (.iaload, 1) := by decide +kernel
theorem dl_763 : decode code 763 = .ok (.invokevirtual 91, 3) := by decide +kernel
theorem dl_766 : decode code 766 = .ok (.if_icmp .eq 303, 3) := by decide +kernel
theorem dl_771 : decode code 771 = .ok (.aload_n 1, 1) := by decide +kernel
theorem dl_772 : decode code 772 = .ok (.aload_n 0, 1) := by decide +kernel
theorem dl_773 : decode code 773 = .ok (.iload 4, 2) := by decide +kernel
theorem dl_775 : decode code 775 = .ok (.iconst 1, 1) := by decide +kernel
theorem dl_776 : decode code 776 = .ok (.iadd, 1) := by decide +kernel
theorem dl_777 : decode code 777 = .ok (.iaload, 1) := by decide +kernel
theorem dl_778 : decode code 778 = .ok (.invokevirtual 92, 3) := by decide +kernel
theorem dl_781 : decode code 781 = .ok (.aload_n 2, 1) := by decide +kernel
theorem dl_782 : decode code 782 = .ok (.aload_n 0, 1) := by decide +kernel
theorem dl_783 : decode code 783 = .ok (.iload 4, 2) := by decide +kernel
theorem dl_785 : decode code 785 = .ok (.iconst 1, 1) := by decide +kernel
theorem dl_786 : decode code 786 = .ok (.iadd, 1) := by decide +kernel
theorem dl_787 : decode code 787 = .ok (.iaload, 1) := by decide +kernel
theorem dl_788 : decode code 788 = .ok (.invokevirtual 95, 3) := by decide +kernel
theorem dl_791 : decode code 791 = .ok (.if_icmp .eq 278, 3) := by decide +kernel
theorem dl_796 : decode code 796 = .ok (.aload_n 1, 1) := by decide +kernel
theorem dl_797 : decode code 797 = .ok (.aload_n 0, 1) := by decide +kernel
theorem dl_798 : decode code 798 = .ok (.iload 4, 2) := by decide +kernel
theorem dl_800 : decode code 800 = .ok (.iconst 1, 1) := by decide +kernel
theorem dl_801 : decode code 801 = .ok (.iadd, 1) := by decide +kernel
theorem dl_802 : decode code 802 = .ok (.iaload, 1) := by decide +kernel
theorem dl_803 : decode code 803 = .ok (.aload_n 0, 1) := by decide +kernel
theorem dl_804 : decode code 804 = .ok (.iload 4, 2) := by decide +kernel
theorem dl_806 : decode code 806 = .ok (.iconst 2, 1) := by decide +kernel
theorem dl_807 : decode code 807 = .ok (.iadd, 1) := by decide +kernel
theorem dl_808 : decode code 808 = .ok (.iaload, 1) := by decide +kernel
theorem dl_809 : decode code 809 = .ok (.invokevirtual 96, 3) := by decide +kernel
theorem dl_812 : decode code 812 = .ok (.aload_n 2, 1) := by decide +kernel
theorem dl_813 : decode code 813 = .ok (.aload_n 0, 1) := by decide +kernel
theorem dl_814 : decode code 814 = .ok (.iload 4, 2) := by decide +kernel
theorem dl_816 : decode code 816 = .ok (.iconst 1, 1) := by decide +kernel
theorem dl_817 : decode code 817 = .ok (.iadd, 1) := by decide +kernel
theorem dl_818 : decode code 818 = .ok (.iaload, 1) := by decide +kernel
theorem dl_819 : decode code 819 = .ok (.aload_n 0, 1) := by decide +kernel
theorem dl_820 : decode code 820 = .ok (.iload 4, 2) := by decide +kernel
theorem dl_822 : decode code 822 = .ok (.iconst 2, 1) := by decide +kernel
theorem dl_823 : decode code 823 = .ok (.iadd, 1) := by decide +kernel
theorem dl_824 : decode code 824 = .ok (.iaload, 1) := by decide +kernel
theorem dl_825 : decode code 825 = .ok (.invokevirtual 99, 3) := by decide +kernel
theorem dl_828 : decode code 828 = .ok (.if_icmp .eq 241, 3) := by decide +kernel
theorem dl_833 : decode code 833 = .ok (.aload_n 1, 1) := by decide +kernel
theorem dl_834 : decode code 834 = .ok (.aload_n 0, 1) := by decide +kernel
theorem dl_835 : decode code 835 = .ok (.iload 4, 2) := by decide +kernel
theorem dl_837 : decode code 837 = .ok (.iconst 1, 1) := by decide +kernel
theorem dl_838 : decode code 838 = .ok (.iadd, 1) := by decide +kernel
theorem dl_839 : decode code 839 = .ok (.iaload, 1) := by decide +kernel
theorem dl_840 : decode code 840 = .ok (.aload_n 0, 1) := by decide +kernel
theorem dl_841 : decode code 841 = .ok (.iload 4, 2) := by decide +kernel
theorem dl_843 : decode code 843 = .ok (.iconst 2, 1) := by decide +kernel
theorem dl_844 : decode code 844 = .ok (.iadd, 1) := by decide +kernel
theorem dl_845 : decode code 845 = .ok (.iaload, 1) := by decide +kernel
theorem dl_846 : decode code 846 = .ok (.aload_n 0, 1) := by decide +kernel
theorem dl_847 : decode code 847 = .ok (.iload 4, 2) := by decide +kernel
theorem dl_849 : decode code 849 = .ok (.iconst 3, 1) := by decide +kernel
theorem dl_850 : decode code 850 = .ok (.iadd, 1) := by decide +kernel
theorem dl_851 : decode code 851 = .ok (.iaload, 1) := by decide +kernel
theorem dl_852 : decode code 852 = .ok (.invokevirtual 100, 3) := by decide +kernel
theorem dl_855 : decode code 855 = .ok (.aload_n 2, 1) := by decide +kernel
theorem dl_856 : decode code 856 = .ok (.aload_n 0, 1) := by decide +kernel
theorem dl_857 : decode code 857 = .ok (.iload 4, 2) := by decide +kernel
theorem dl_859 : decode code 859 = .ok (.iconst 1, 1) := by decide +kernel
theorem dl_860 : decode code 860 = .ok (.iadd, 1) := by decide +kernel
theorem dl_861 : decode code 861 = .ok (.iaload, 1) := by decide +kernel
theorem dl_862 : decode code 862 = .ok (.aload_n 0, 1) := by decide +kernel
theorem dl_863 : decode code 863 = .ok (.iload 4, 2) := by decide +kernel
theorem dl_865 : decode code 865 = .ok (.iconst 2, 1) := by decide +kernel
theorem dl_866 : decode code 866 = .ok (.iadd, 1) := by decide +kernel
theorem dl_867 : decode code 867 = .ok (.iaload, 1) := by decide +kernel
theorem dl_868 : decode code 868 = .ok (.aload_n 0, 1) := by decide +kernel
theorem dl_869 : decode code 869 = .ok (.iload 4, 2) := by decide +kernel
theorem dl_871 : decode code 871 = .ok (.iconst 3, 1) := by decide +kernel
theorem dl_872 : decode code 872 = .ok (.iadd, 1) := by decide +kernel
theorem dl_873 : decode code 873 = .ok (.iaload, 1) := by decide +kernel
theorem dl_874 : decode code 874 = .ok (.invokevirtual 103, 3) := by decide +kernel
theorem dl_877 : decode code 877 = .ok (.if_icmp .eq 192, 3) := by decide +kernel
theorem dl_882 : decode code 882 = .ok (.aload_n 1, 1) := by decide +kernel
theorem dl_883 : decode code 883 = .ok (.aload_n 0, 1) := by decide +kernel
theorem dl_884 : decode code 884 = .ok (.iload 4, 2) := by decide +kernel
theorem dl_886 : decode code 886 = .ok (.iconst 1, 1) := by decide +kernel
theorem dl_887 : decode code 887 = .ok (.iadd, 1) := by decide +kernel
theorem dl_888 : decode code 888 = .ok (.iaload, 1) := by decide +kernel
theorem dl_889 : decode code 889 = .ok (.invokevirtual 104, 3) := by decide +kernel
theorem dl_892 : decode code 892 = .ok (.aload_n 2, 1) := by decide +kernel
theorem dl_893 : decode code 893 = .ok (.aload_n 0, 1) := by decide +kernel
theorem dl_894 : decode code 894 = .ok (.iload 4, 2) := by decide +kernel
theorem dl_896 : decode code 896 = .ok (.iconst 1, 1) := by decide +kernel
theorem dl_897 : decode code 897 = .ok (.iadd, 1) := by decide +kernel
theorem dl_898 : decode code 898 = .ok (.iaload, 1) := by decide +kernel
theorem dl_899 : decode code 899 = .ok (.invokevirtual 107, 3) := by decide +kernel
theorem dl_902 : decode code 902 = .ok (.if_icmp .eq 167, 3) := by decide +kernel
theorem dl_907 : decode code 907 = .ok (.aload_n 1, 1) := by decide +kernel
theorem dl_908 : decode code 908 = .ok (.invokevirtual 108, 3) := by decide +kernel
theorem dl_911 : decode code 911 = .ok (.aload_n 2, 1) := by decide +kernel
theorem dl_912 : decode code 912 = .ok (.invokevirtual 111, 3) := by decide +kernel
theorem dl_915 : decode code 915 = .ok (.if_icmp .eq 154, 3) := by decide +kernel
theorem dl_920 : decode code 920 = .ok (.aload_n 1, 1) := by decide +kernel
theorem dl_921 : decode code 921 = .ok (.aload_n 0, 1) := by decide +kernel
theorem dl_922 : decode code 922 = .ok (.iload 4, 2) := by decide +kernel
theorem dl_924 : decode code 924 = .ok (.iconst 1, 1) := by decide +kernel
theorem dl_925 : decode code 925 = .ok (.iadd, 1) := by decide +kernel
theorem dl_926 : decode code 926 = .ok (.iaload, 1) := by decide +kernel
theorem dl_927 : decode code 927 = .ok (.invokevirtual 112, 3) := by decide +kernel
theorem dl_930 : decode code 930 = .ok (.aload_n 2, 1) := by decide +kernel
theorem dl_931 : decode code 931 = .ok (.aload_n 0, 1) := by decide +kernel
theorem dl_932 : decode code 932 = .ok (.iload 4, 2) := by decide +kernel
theorem dl_934 : decode code 934 = .ok (.iconst 1, 1) := by decide +kernel
theorem dl_935 : decode code 935 = .ok (.iadd, 1) := by decide +kernel
theorem dl_936 : decode code 936 = .ok (.iaload, 1) := by decide +kernel
theorem dl_937 : decode code 937 = .ok (.invokevirtual 115, 3) := by decide +kernel
theorem dl_940 : decode code 940 = .ok (.if_icmp .eq 129, 3) := by decide +kernel
theorem dl_945 : decode code 945 = .ok (.aload_n 1, 1) := by decide +kernel
theorem dl_946 : decode code 946 = .ok (.aload_n 0, 1) := by decide +kernel
theorem dl_947 : decode code 947 = .ok (.iload 4, 2) := by decide +kernel
theorem dl_949 : decode code 949 = .ok (.iconst 1, 1) := by decide +kernel
theorem dl_950 : decode code 950 = .ok (.iadd, 1) := by decide +kernel
theorem dl_951 : decode code 951 = .ok (.iaload, 1) := by decide +kernel
theorem dl_952 : decode code 952 = .ok (.invokevirtual 116, 3) := by decide +kernel
theorem dl_955 : decode code 955 = .ok (.aload_n 2, 1) := by decide +kernel
theorem dl_956 : decode code 956 = .ok (.aload_n 0, 1) := by decide +kernel
theorem dl_957 : decode code 957 = .ok (.iload 4, 2) := by decide +kernel
theorem dl_959 : decode code 959 = .ok (.iconst 1, 1) := by decide +kernel
theorem dl_960 : decode code 960 = .ok (.iadd, 1) := by decide +kernel
theorem dl_961 : decode code 961 = .ok (.iaload, 1) := by decide +kernel
theorem dl_962 : decode code 962 = .ok (.invokevirtual 119, 3) := by decide +kernel
theorem dl_965 : decode code 965 = .ok (.if_icmp .eq 104, 3) := by decide +kernel
theorem dl_970 : decode code 970 = .ok (.aload_n 1, 1) := by decide +kernel
theorem dl_971 : decode code 971 = .ok (.aload_n 0, 1) := by decide +kernel
theorem dl_972 : decode code 972 = .ok (.iload 4, 2) := by decide +kernel
theorem dl_974 : decode code 974 = .ok (.iconst 1, 1) := by decide +kernel
theorem dl_975 : decode code 975 = .ok (.iadd, 1) := by decide +kernel
theorem dl_976 : decode code 976 = .ok (.iaload, 1) := by decide +kernel
theorem dl_977 : decode code 977 = .ok (.aload_n 0, 1) := by decide +kernel
theorem dl_978 : decode code 978 = .ok (.iload 4, 2) := by decide +kernel
theorem dl_980 : decode code 980 = .ok (.iconst 2, 1) := by decide +kernel
theorem dl_981 : decode code 981 = .ok (.iadd, 1) := by decide +kernel
theorem dl_982 : decode code 982 = .ok (.iaload, 1) := by decide +kernel
theorem dl_983 : decode code 983 = .ok (.aload_n 0, 1) := by decide +kernel
theorem dl_984 : decode code 984 = .ok (.iload 4, 2) := by decide +kernel
theorem dl_986 : decode code 986 = .ok (.iconst 3, 1) := by decide +kernel
theorem dl_987 : decode code 987 = .ok (.iadd, 1) := by decide +kernel
theorem dl_988 : decode code 988 = .ok (.iaload, 1) := by decide +kernel
theorem dl_989 : decode code 989 = .ok (.invokevirtual 120, 3) := by decide +kernel
theorem dl_992 : decode code 992 = .ok (.aload_n 2, 1) := by decide +kernel
theorem dl_993 : decode code 993 = .ok (.aload_n 0, 1) := by decide +kernel
theorem dl_994 : decode code 994 = .ok (.iload 4, 2) := by decide +kernel
theorem dl_996 : decode code 996 = .ok (.iconst 1, 1) := by decide +kernel
theorem dl_997 : decode code 997 = .ok (.iadd, 1) := by decide +kernel
theorem dl_998 : decode code 998 = .ok (.iaload, 1) := by decide +kernel
theorem dl_999 : decode code 999 = .ok (.aload_n 0, 1) := by decide +kernel
theorem dl_1000 : decode code 1000 = .ok (.iload 4, 2) := by decide +kernel
theorem dl_1002 : decode code 1002 = .ok (.iconst 2, 1) := by decide +kernel
theorem dl_1003 : decode code 1003 = .ok (.iadd, 1) := by decide +kernel
theorem dl_1004 : decode code 1004 = .ok (.iaload, 1) := by decide +kernel
theorem dl_1005 : decode code 1005 = .ok (.aload_n 0, 1) := by decide +kernel
theorem dl_1006 : decode code 1006 = .ok (.iload 4, 2) := by decide +kernel
theorem dl_1008 : decode code 1008 = .ok (.iconst 3, 1) := by decide +kernel
theorem dl_1009 : decode code 1009 = .ok (.iadd, 1) := by decide +kernel
theorem dl_1010 : decode code 1010 = .ok (.iaload, 1) := by decide +kernel
theorem dl_1011 : decode code 1011 = .ok (.invokevirtual 123, 3) := by decide +kernel
theorem dl_1014 : decode code 1014 = .ok (.if_icmp .eq 55, 3) := by decide +kernel
theorem dl_1019 : decode code 1019 = .ok (.aload_n 1, 1) := by decide +kernel
theorem dl_1020 : decode code 1020 = .ok (.aload_n 0, 1) := by decide +kernel
theorem dl_1021 : decode code 1021 = .ok (.iload 4, 2) := by decide +kernel
theorem dl_1023 : decode code 1023 = .ok (.iconst 1, 1) := by decide +kernel
theorem dl_1024 : decode code 1024 = .ok (.iadd, 1) := by decide +kernel
theorem dl_1025 : decode code 1025 = .ok (.iaload, 1) := by decide +kernel
theorem dl_1026 : decode code 1026 = .ok (.invokevirtual 124, 3) := by decide +kernel
theorem dl_1029 : decode code 1029 = .ok (.aload_n 2, 1) := by decide +kernel
theorem dl_1030 : decode code 1030 = .ok (.aload_n 0, 1) := by decide +kernel
theorem dl_1031 : decode code 1031 = .ok (.iload 4, 2) := by decide +kernel
theorem dl_1033 : decode code 1033 = .ok (.iconst 1, 1) := by decide +kernel
theorem dl_1034 : decode code 1034 = .ok (.iadd, 1) := by decide +kernel
theorem dl_1035 : decode code 1035 = .ok (.iaload, 1) := by decide +kernel
theorem dl_1036 : decode code 1036 = .ok (.invokevirtual 128, 3) := by decide +kernel
theorem dl_1039 : decode code 1039 = .ok (.if_icmp .eq 30, 3) := by decide +kernel
theorem dl_1044 : decode code 1044 = .ok (.aload_n 1, 1) := by decide +kernel
theorem dl_1045 : decode code 1045 = .ok (.aload_n 0, 1) := by decide +kernel
theorem dl_1046 : decode code 1046 = .ok (.iload 4, 2) := by decide +kernel
theorem dl_1048 : decode code 1048 = .ok (.iconst 1, 1) := by decide +kernel
theorem dl_1049 : decode code 1049 = .ok (.iadd, 1) := by decide +kernel
theorem dl_1050 : decode code 1050 = .ok (.iaload, 1) := by decide +kernel
theorem dl_1051 : decode code 1051 = .ok (.invokevirtual 129, 3) := by decide +kernel
theorem dl_1054 : decode code 1054 = .ok (.aload_n 2, 1) := by decide +kernel
theorem dl_1055 : decode code 1055 = .ok (.aload_n 0, 1) := by decide +kernel
theorem dl_1056 : decode code 1056 = .ok (.iload 4, 2) := by decide +kernel
theorem dl_1058 : decode code 1058 = .ok (.iconst 1, 1) := by decide +kernel
theorem dl_1059 : decode code 1059 = .ok (.iadd, 1) := by decide +kernel
theorem dl_1060 : decode code 1060 = .ok (.iaload, 1) := by decide +kernel
theorem dl_1061 : decode code 1061 = .ok (.invokevirtual 132, 3) := by decide +kernel
theorem dl_1064 : decode code 1064 = .ok (.if_icmp .eq 5, 3) := by decide +kernel
theorem dl_0 : decode code 0 = .ok (.new 8, 3) := by decide +kernel
theorem dl_3 : decode code 3 = .ok (.dup, 1) := by decide +kernel
theorem dl_4 : decode code 4 = .ok (.invokespecial 15, 3) := by decide +kernel
theorem dl_7 : decode code 7 = .ok (.astore_n 1, 1) := by decide +kernel
theorem dl_8 : decode code 8 = .ok (.new 16, 3) := by decide +kernel
theorem dl_11 : decode code 11 = .ok (.dup, 1) := by decide +kernel
theorem dl_12 : decode code 12 = .ok (.invokespecial 18, 3) := by decide +kernel
theorem dl_15 : decode code 15 = .ok (.astore_n 2, 1) := by decide +kernel
theorem dl_16 : decode code 16 = .ok (.iconst 1, 1) := by decide +kernel
theorem dl_17 : decode code 17 = .ok (.newarray .long, 2) := by decide +kernel
theorem dl_19 : decode code 19 = .ok (.astore_n 3, 1) := by decide +kernel
theorem dl_20 : decode code 20 = .ok (.iconst 0, 1) := by decide +kernel
theorem dl_21 : decode code 21 = .ok (.istore 4, 2) := by decide +kernel
theorem dl_23 : decode code 23 = .ok (.iload 4, 2) := by decide +kernel
theorem dl_25 : decode code 25 = .ok (.aload_n 0, 1) := by decide +kernel
theorem dl_26 : decode code 26 = .ok (.arraylength, 1) := by decide +kernel
theorem dl_27 : decode code 27 = .ok (.bipush 6, 2) := by decide +kernel
theorem dl_29 : decode code 29 = .ok (.isub, 1) := by decide +kernel
theorem dl_30 : decode code 30 = .ok (.if_icmp .gt 1045, 3) := by decide +kernel
theorem dl_33 : decode code 33 = .ok (.aload_n 0, 1) := by decide +kernel
theorem dl_34 : decode code 34 = .ok (.iload 4, 2) := by decide +kernel
theorem dl_36 : decode code 36 = .ok (.iaload, 1) := by decide +kernel
theorem dl_37 : decode code 37 = .ok (.bipush 31, 2) := by decide +kernel
theorem dl_39 : decode code 39 = .ok (.iand, 1) := by decide +kernel
theorem dl_40 : decode code 40 = .ok (.tableswitch 1029 0 25 #[120, 193, 218, 243, 292, 329, 354, 391, 428, 465, 502, 551, 564, 632, 669, 706, 731, 756, 793, 842, 867, 880, 905, 930, 979, 1004], 120) := by decide +kernel
theorem dl_1069 : decode code 1069 = .ok (.iinc 4 6, 3) := by decide +kernel
theorem dl_1072 : decode code 1072 = .ok (.goto (-1049), 3) := by decide +kernel
theorem dl_1075 : decode code 1075 = .ok (.iconst 1, 1) := by decide +kernel
theorem dl_1076 : decode code 1076 = .ok (.ireturn, 1) := by decide +kernel
def cl_o_feed (Rel : cd_M → Prop) : Prop := ∀ (a1 : Int32) (a2 : Int32) (a3 : Int32) (a4 : Int32) (a5 : Int32) (M : cd_M), Rel M → ∃ (v : Int32) (M1 M2 : cd_M), f10_feed_0 a1 a2 a3 a4 a5 M = some (v, M1) ∧ f11_feed_15 a1 a2 a3 a4 a5 M1 = some (v, M2) ∧ Rel M2
def cl_o_film (Rel : cd_M → Prop) : Prop := ∀ (a1 : Int32) (M : cd_M), Rel M → ∃ (v : Int32) (M1 M2 : cd_M), f10_film_0 a1 M = some (v, M1) ∧ f11_film_15 a1 M1 = some (v, M2) ∧ Rel M2
def cl_o_rules (Rel : cd_M → Prop) : Prop := ∀ (a1 : Int32) (M : cd_M), Rel M → ∃ (v : Int32) (M1 M2 : cd_M), f10_rules_0 a1 M = some (v, M1) ∧ f11_rules_15 a1 M1 = some (v, M2) ∧ Rel M2
def cl_o_frame (Rel : cd_M → Prop) : Prop := ∀ (a1 : Int32) (a2 : Int32) (a3 : Int32) (M : cd_M), Rel M → ∃ (v : Int32) (M2 : cd_M), f10_frame_0 a1 a2 a3 M = some v ∧ f11_frame_15 a1 a2 a3 M = some (v, M2) ∧ Rel M2
def cl_o_cadence (Rel : cd_M → Prop) : Prop := ∀ (a1 : Int32) (a2 : Int32) (M : cd_M), Rel M → ∃ (v : Int32) (M2 : cd_M), f10_cadence_0 a1 a2 M = some v ∧ f11_cadence_15 a1 a2 M = some (v, M2) ∧ Rel M2
def cl_o_force (Rel : cd_M → Prop) : Prop := ∀ (a1 : Int32) (M : cd_M), Rel M → ∃ (v : Int32) (M1 M2 : cd_M), f10_force_0 a1 M = (v, M1) ∧ f11_force_15 a1 M1 = (v, M2) ∧ Rel M2
def cl_o_carry (Rel : cd_M → Prop) : Prop := ∀ (a1 : Int32) (a2 : Int32) (M : cd_M), Rel M → ∃ (v : Int32) (M1 M2 : cd_M), f10_carry_0 a1 a2 M = some (v, M1) ∧ f11_carry_15 a1 a2 M1 = some (v, M2) ∧ Rel M2
def cl_o_cut (Rel : cd_M → Prop) : Prop := ∀ (a1 : Int32) (a2 : Int32) (M : cd_M), Rel M → ∃ (v : Int32) (M1 M2 : cd_M), f10_cut_0 a1 a2 M = some (v, M1) ∧ f11_cut_15 a1 a2 M1 = some (v, M2) ∧ Rel M2
def cl_o_doubled (Rel : cd_M → Prop) : Prop := ∀ (a1 : Int32) (a2 : Int32) (M : cd_M), Rel M → ∃ (v : Int32) (M1 M2 : cd_M), f10_doubled_0 a1 a2 M = some (v, M1) ∧ f11_doubled_15 a1 a2 M1 = some (v, M2) ∧ Rel M2
def cl_o_noise (Rel : cd_M → Prop) : Prop := ∀ (a1 : Int32) (a2 : Int32) (M : cd_M), Rel M → ∃ (v : Int32) (M1 M2 : cd_M), f10_noise_0 a1 a2 M = some (v, M1) ∧ f11_noise_15 a1 a2 M1 = some (v, M2) ∧ Rel M2
def cl_o_set (Rel : cd_M → Prop) : Prop := ∀ (a1 : Int32) (a2 : Int32) (a3 : Int32) (M : cd_M), Rel M → ∃ (v : Int32) (M1 M2 : cd_M), f10_set_0 a1 a2 a3 M = some (v, M1) ∧ f11_set_15 a1 a2 a3 M1 = some (v, M2) ∧ Rel M2
def cl_o_undo (Rel : cd_M → Prop) : Prop := ∀ (M : cd_M), Rel M → ∃ (v : Int32) (M1 M2 : cd_M), f10_undo_0 M = some (v, M1) ∧ f11_undo_15 M1 = some (v, M2) ∧ Rel M2
def cl_o_apart (Rel : cd_M → Prop) : Prop := ∀ (a1 : Int32) (a2 : Int32) (M : cd_M), Rel M → ∃ (v : Int32) (M2 : cd_M), f10_apart_0 a1 a2 M = some v ∧ f11_apart_15 a1 a2 M = some (v, M2) ∧ Rel M2
def cl_o_path (Rel : cd_M → Prop) : Prop := ∀ (a1 : Int32) (a2 : Int32) (M : cd_M), Rel M → ∃ (v : Int32) (M1 M2 : cd_M), f10_path_0 a1 a2 M = some (v, M1) ∧ f11_path_15 a1 a2 M1 = some (v, M2) ∧ Rel M2
def cl_o_all (Rel : cd_M → Prop) : Prop := ∀ (a1 : Int32) (M : cd_M), Rel M → ∃ (v : Int32) (M1 M2 : cd_M), f10_all_0 a1 M = some (v, M1) ∧ f11_all_15 a1 M1 = some (v, M2) ∧ Rel M2
def cl_o_edit (Rel : cd_M → Prop) : Prop := ∀ (a1 : Int32) (M : cd_M), Rel M → ∃ (v : Int32) (M1 M2 : cd_M), f10_edit_0 a1 M = some (v, M1) ∧ f11_edit_15 a1 M1 = some (v, M2) ∧ Rel M2
def cl_o_group (Rel : cd_M → Prop) : Prop := ∀ (a1 : Int32) (a2 : Int32) (M : cd_M), Rel M → ∃ (v : Int32) (M1 M2 : cd_M), f10_group_0 a1 a2 M = some (v, M1) ∧ f11_group_15 a1 a2 M1 = some (v, M2) ∧ Rel M2
def cl_o_found (Rel : cd_M → Prop) : Prop := ∀ (a1 : Int32) (a2 : Int32) (a3 : Int32) (M : cd_M), Rel M → ∃ (v : Int32) (M1 M2 : cd_M), f10_found_0 a1 a2 a3 M = some (v, M1) ∧ f11_found_15 a1 a2 a3 M1 = some (v, M2) ∧ Rel M2
def cl_o_known (Rel : cd_M → Prop) : Prop := ∀ (a1 : Int32) (M : cd_M), Rel M → ∃ (v : Int32) (M1 M2 : cd_M), f10_known_0 a1 M = some (v, M1) ∧ f11_known_15 a1 M1 = some (v, M2) ∧ Rel M2
def cl_o_restored (Rel : cd_M → Prop) : Prop := ∀ (M : cd_M), Rel M → ∃ (v : Int32) (M1 M2 : cd_M), f10_restored_0 M = some (v, M1) ∧ f11_restored_15 M1 = some (v, M2) ∧ Rel M2
def cl_o_costs (Rel : cd_M → Prop) : Prop := ∀ (a1 : Int32) (M : cd_M), Rel M → ∃ (v : Int32) (M1 M2 : cd_M), f10_costs_0 a1 M = some (v, M1) ∧ f11_costs__15 a1 M1 = some (v, M2) ∧ Rel M2
def cl_o_guess (Rel : cd_M → Prop) : Prop := ∀ (a1 : Int32) (M : cd_M), Rel M → ∃ (v : Int32) (M1 M2 : cd_M), f10_guess_0 a1 M = some (v, M1) ∧ f11_guess_15 a1 M1 = some (v, M2) ∧ Rel M2
def cl_o_anew (Rel : cd_M → Prop) : Prop := ∀ (a1 : Int32) (a2 : Int32) (a3 : Int32) (M : cd_M), Rel M → ∃ (v : Int32) (M1 M2 : cd_M), f10_anew_0 a1 a2 a3 M = some (v, M1) ∧ f11_anew_15 a1 a2 a3 M1 = some (v, M2) ∧ Rel M2
def cl_o_isClean (Rel : cd_M → Prop) : Prop := ∀ (a1 : Int32) (M : cd_M), Rel M → ∃ (v : Int32) (M1 M2 : cd_M), f10_isClean_0 a1 M = some (v, M1) ∧ f11_isClean_15 a1 M1 = some (v, M2) ∧ Rel M2
def cl_o_count (Rel : cd_M → Prop) : Prop := ∀ (a1 : Int32) (M : cd_M), Rel M → ∃ (v : Int32) (M2 : cd_M), f10_count_0 a1 M = some v ∧ f11_count_15 a1 M = some (v, M2) ∧ Rel M2
