/-! the law's names -/
theorem dL_texts_133 : decode cL_texts 133 = .ok (.aload_n 0, 1) := by decide +kernel
theorem dL_texts_134 : decode cL_texts 134 = .ok (.ldc2_w 278, 3) := by decide +kernel
theorem dL_texts_137 : decode cL_texts 137 = .ok (.ldc2_w 282, 3) := by decide +kernel
theorem dL_texts_140 : decode cL_texts 140 = .ok (.bipush 11, 2) := by decide +kernel
theorem dL_texts_142 : decode cL_texts 142 = .ok (.invokestatic 258, 3) := by decide +kernel
theorem dL_texts_145 : decode cL_texts 145 = .ok (.ifCond .eq 137, 3) := by decide +kernel
theorem dL_texts_148 : decode cL_texts 148 = .ok (.aload_n 0, 1) := by decide +kernel
theorem dL_texts_149 : decode cL_texts 149 = .ok (.ldc2_w 284, 3) := by decide +kernel
theorem dL_texts_152 : decode cL_texts 152 = .ok (.lconst 0, 1) := by decide +kernel
theorem dL_texts_153 : decode cL_texts 153 = .ok (.iconst 3, 1) := by decide +kernel
theorem dL_texts_154 : decode cL_texts 154 = .ok (.invokestatic 258, 3) := by decide +kernel
theorem dL_texts_157 : decode cL_texts 157 = .ok (.ifCond .eq 125, 3) := by decide +kernel
theorem dL_texts_160 : decode cL_texts 160 = .ok (.aload_n 0, 1) := by decide +kernel
theorem dL_texts_161 : decode cL_texts 161 = .ok (.ldc2_w 286, 3) := by decide +kernel
theorem dL_texts_164 : decode cL_texts 164 = .ok (.lconst 0, 1) := by decide +kernel
theorem dL_texts_165 : decode cL_texts 165 = .ok (.iconst 2, 1) := by decide +kernel
theorem dL_texts_166 : decode cL_texts 166 = .ok (.invokestatic 258, 3) := by decide +kernel
theorem dL_texts_169 : decode cL_texts 169 = .ok (.ifCond .eq 113, 3) := by decide +kernel
theorem dL_texts_172 : decode cL_texts 172 = .ok (.aload_n 0, 1) := by decide +kernel
theorem dL_texts_173 : decode cL_texts 173 = .ok (.lconst 0, 1) := by decide +kernel
theorem dL_texts_174 : decode cL_texts 174 = .ok (.lconst 0, 1) := by decide +kernel
theorem dL_texts_175 : decode cL_texts 175 = .ok (.iconst 0, 1) := by decide +kernel
theorem dL_texts_176 : decode cL_texts 176 = .ok (.invokestatic 258, 3) := by decide +kernel
theorem dL_texts_179 : decode cL_texts 179 = .ok (.ifCond .eq 103, 3) := by decide +kernel
theorem dL_texts_182 : decode cL_texts 182 = .ok (.aload_n 0, 1) := by decide +kernel
theorem dL_texts_183 : decode cL_texts 183 = .ok (.ldc2_w 288, 3) := by decide +kernel
theorem dL_texts_186 : decode cL_texts 186 = .ok (.ldc2_w 290, 3) := by decide +kernel
theorem dL_texts_189 : decode cL_texts 189 = .ok (.iconst (-1), 1) := by decide +kernel
theorem dL_texts_190 : decode cL_texts 190 = .ok (.invokestatic 258, 3) := by decide +kernel
theorem dL_texts_193 : decode cL_texts 193 = .ok (.ifCond .eq 89, 3) := by decide +kernel
theorem dL_texts_196 : decode cL_texts 196 = .ok (.aload_n 0, 1) := by decide +kernel
theorem dL_texts_197 : decode cL_texts 197 = .ok (.ldc2_w 292, 3) := by decide +kernel
theorem dL_texts_200 : decode cL_texts 200 = .ok (.lconst 0, 1) := by decide +kernel
theorem dL_texts_201 : decode cL_texts 201 = .ok (.iconst 3, 1) := by decide +kernel
theorem dL_texts_202 : decode cL_texts 202 = .ok (.invokestatic 258, 3) := by decide +kernel
theorem dL_texts_205 : decode cL_texts 205 = .ok (.ifCond .eq 77, 3) := by decide +kernel
theorem dL_texts_208 : decode cL_texts 208 = .ok (.aload_n 0, 1) := by decide +kernel
theorem dL_texts_209 : decode cL_texts 209 = .ok (.ldc2_w 294, 3) := by decide +kernel
theorem dL_texts_212 : decode cL_texts 212 = .ok (.lconst 0, 1) := by decide +kernel
theorem dL_texts_213 : decode cL_texts 213 = .ok (.iconst 3, 1) := by decide +kernel
theorem dL_texts_214 : decode cL_texts 214 = .ok (.invokestatic 258, 3) := by decide +kernel
theorem dL_texts_217 : decode cL_texts 217 = .ok (.ifCond .eq 65, 3) := by decide +kernel
theorem dL_texts_220 : decode cL_texts 220 = .ok (.aload_n 0, 1) := by decide +kernel
theorem dL_texts_221 : decode cL_texts 221 = .ok (.ldc2_w 296, 3) := by decide +kernel
theorem dL_texts_224 : decode cL_texts 224 = .ok (.lconst 0, 1) := by decide +kernel
theorem dL_texts_225 : decode cL_texts 225 = .ok (.iconst 5, 1) := by decide +kernel
theorem dL_texts_226 : decode cL_texts 226 = .ok (.invokestatic 258, 3) := by decide +kernel
theorem dL_texts_229 : decode cL_texts 229 = .ok (.ifCond .eq 53, 3) := by decide +kernel
theorem dL_texts_232 : decode cL_texts 232 = .ok (.aload_n 0, 1) := by decide +kernel
theorem dL_texts_233 : decode cL_texts 233 = .ok (.ldc2_w 298, 3) := by decide +kernel
theorem dL_texts_236 : decode cL_texts 236 = .ok (.lconst 0, 1) := by decide +kernel
theorem dL_texts_237 : decode cL_texts 237 = .ok (.iconst (-1), 1) := by decide +kernel
theorem dL_texts_238 : decode cL_texts 238 = .ok (.invokestatic 258, 3) := by decide +kernel
theorem dL_texts_241 : decode cL_texts 241 = .ok (.ifCond .eq 41, 3) := by decide +kernel
theorem dL_texts_244 : decode cL_texts 244 = .ok (.aload_n 0, 1) := by decide +kernel
theorem dL_texts_245 : decode cL_texts 245 = .ok (.ldc2_w 300, 3) := by decide +kernel
theorem dL_texts_248 : decode cL_texts 248 = .ok (.lconst 0, 1) := by decide +kernel
theorem dL_texts_249 : decode cL_texts 249 = .ok (.bipush 6, 2) := by decide +kernel
theorem dL_texts_251 : decode cL_texts 251 = .ok (.invokestatic 258, 3) := by decide +kernel
theorem dL_texts_254 : decode cL_texts 254 = .ok (.ifCond .eq 28, 3) := by decide +kernel
theorem dL_texts_257 : decode cL_texts 257 = .ok (.aload_n 0, 1) := by decide +kernel
theorem dL_texts_258 : decode cL_texts 258 = .ok (.ldc2_w 302, 3) := by decide +kernel
theorem dL_texts_261 : decode cL_texts 261 = .ok (.lconst 0, 1) := by decide +kernel
theorem dL_texts_262 : decode cL_texts 262 = .ok (.iconst 3, 1) := by decide +kernel
theorem dL_texts_263 : decode cL_texts 263 = .ok (.invokestatic 258, 3) := by decide +kernel
theorem dL_texts_266 : decode cL_texts 266 = .ok (.ifCond .eq 16, 3) := by decide +kernel
theorem dL_texts_269 : decode cL_texts 269 = .ok (.aload_n 0, 1) := by decide +kernel
theorem dL_texts_270 : decode cL_texts 270 = .ok (.ldc2_w 304, 3) := by decide +kernel
theorem dL_texts_273 : decode cL_texts 273 = .ok (.lconst 0, 1) := by decide +kernel
theorem dL_texts_274 : decode cL_texts 274 = .ok (.bipush 6, 2) := by decide +kernel
theorem dL_texts_276 : decode cL_texts 276 = .ok (.invokestatic 258, 3) := by decide +kernel
theorem dL_texts_279 : decode cL_texts 279 = .ok (.ifCond .ne 5, 3) := by decide +kernel
theorem dL_texts_282 : decode cL_texts 282 = .ok (.iconst 0, 1) := by decide +kernel
theorem dL_texts_283 : decode cL_texts 283 = .ok (.ireturn, 1) := by decide +kernel
theorem dL_texts_284 : decode cL_texts 284 = .ok (.aload_n 0, 1) := by decide +kernel
theorem dL_texts_285 : decode cL_texts 285 = .ok (.invokevirtual 246, 3) := by decide +kernel
theorem dL_texts_288 : decode cL_texts 288 = .ok (.bipush 7, 2) := by decide +kernel
theorem dL_texts_290 : decode cL_texts 290 = .ok (.if_icmp .ne 350, 3) := by decide +kernel
theorem dL_texts_293 : decode cL_texts 293 = .ok (.aload_n 0, 1) := by decide +kernel
theorem dL_texts_294 : decode cL_texts 294 = .ok (.ldc2_w 306, 3) := by decide +kernel
theorem dL_texts_297 : decode cL_texts 297 = .ok (.invokestatic 249, 3) := by decide +kernel
theorem dL_texts_300 : decode cL_texts 300 = .ok (.ifCond .eq 340, 3) := by decide +kernel
theorem dL_texts_303 : decode cL_texts 303 = .ok (.aload_n 0, 1) := by decide +kernel
theorem dL_texts_304 : decode cL_texts 304 = .ok (.ldc2_w 308, 3) := by decide +kernel
theorem dL_texts_307 : decode cL_texts 307 = .ok (.invokestatic 249, 3) := by decide +kernel
theorem dL_texts_310 : decode cL_texts 310 = .ok (.ifCond .eq 330, 3) := by decide +kernel
theorem dL_texts_313 : decode cL_texts 313 = .ok (.aload_n 0, 1) := by decide +kernel
theorem dL_texts_314 : decode cL_texts 314 = .ok (.ldc2_w 310, 3) := by decide +kernel
theorem dL_texts_317 : decode cL_texts 317 = .ok (.invokestatic 249, 3) := by decide +kernel
theorem dL_texts_320 : decode cL_texts 320 = .ok (.ifCond .eq 320, 3) := by decide +kernel
theorem dL_texts_323 : decode cL_texts 323 = .ok (.aload_n 0, 1) := by decide +kernel
theorem dL_texts_324 : decode cL_texts 324 = .ok (.ldc2_w 312, 3) := by decide +kernel
theorem dL_texts_327 : decode cL_texts 327 = .ok (.invokestatic 249, 3) := by decide +kernel
theorem dL_texts_330 : decode cL_texts 330 = .ok (.ifCond .eq 310, 3) := by decide +kernel
theorem dL_texts_333 : decode cL_texts 333 = .ok (.aload_n 0, 1) := by decide +kernel
theorem dL_texts_334 : decode cL_texts 334 = .ok (.ldc2_w 314, 3) := by decide +kernel
theorem dL_texts_337 : decode cL_texts 337 = .ok (.invokestatic 249, 3) := by decide +kernel
theorem dL_texts_340 : decode cL_texts 340 = .ok (.ifCond .eq 300, 3) := by decide +kernel
theorem dL_texts_343 : decode cL_texts 343 = .ok (.aload_n 0, 1) := by decide +kernel
theorem dL_texts_344 : decode cL_texts 344 = .ok (.invokevirtual 253, 3) := by decide +kernel
theorem dL_texts_347 : decode cL_texts 347 = .ok (.iconst (-1), 1) := by decide +kernel
theorem dL_texts_348 : decode cL_texts 348 = .ok (.if_icmp .ne 292, 3) := by decide +kernel
theorem dL_texts_351 : decode cL_texts 351 = .ok (.aload_n 0, 1) := by decide +kernel
theorem dL_texts_352 : decode cL_texts 352 = .ok (.invokevirtual 138, 3) := by decide +kernel
theorem dL_texts_355 : decode cL_texts 355 = .ok (.iconst (-1), 1) := by decide +kernel
theorem dL_texts_356 : decode cL_texts 356 = .ok (.if_icmp .ne 284, 3) := by decide +kernel
theorem dL_texts_359 : decode cL_texts 359 = .ok (.aload_n 0, 1) := by decide +kernel
theorem dL_texts_360 : decode cL_texts 360 = .ok (.invokevirtual 142, 3) := by decide +kernel
theorem dL_texts_363 : decode cL_texts 363 = .ok (.iconst 4, 1) := by decide +kernel
theorem dL_texts_364 : decode cL_texts 364 = .ok (.if_icmp .ne 276, 3) := by decide +kernel
theorem dL_texts_367 : decode cL_texts 367 = .ok (.aload_n 0, 1) := by decide +kernel
theorem dL_texts_368 : decode cL_texts 368 = .ok (.invokevirtual 155, 3) := by decide +kernel
theorem dL_texts_371 : decode cL_texts 371 = .ok (.bipush 10, 2) := by decide +kernel
theorem dL_texts_373 : decode cL_texts 373 = .ok (.if_icmp .ne 267, 3) := by decide +kernel
theorem dL_texts_376 : decode cL_texts 376 = .ok (.aload_n 0, 1) := by decide +kernel
theorem dL_texts_377 : decode cL_texts 377 = .ok (.bipush 50, 2) := by decide +kernel
theorem dL_texts_379 : decode cL_texts 379 = .ok (.iconst 2, 1) := by decide +kernel
theorem dL_texts_380 : decode cL_texts 380 = .ok (.iconst 0, 1) := by decide +kernel
theorem dL_texts_381 : decode cL_texts 381 = .ok (.iconst 2, 1) := by decide +kernel
theorem dL_texts_382 : decode cL_texts 382 = .ok (.invokestatic 208, 3) := by decide +kernel
theorem dL_texts_385 : decode cL_texts 385 = .ok (.ifCond .eq 255, 3) := by decide +kernel
theorem dL_texts_388 : decode cL_texts 388 = .ok (.aload_n 0, 1) := by decide +kernel
theorem dL_texts_389 : decode cL_texts 389 = .ok (.iconst 0, 1) := by decide +kernel
theorem dL_texts_390 : decode cL_texts 390 = .ok (.invokevirtual 76, 3) := by decide +kernel
theorem dL_texts_393 : decode cL_texts 393 = .ok (.sipush 1080, 3) := by decide +kernel
theorem dL_texts_396 : decode cL_texts 396 = .ok (.if_icmp .ne 244, 3) := by decide +kernel
theorem dL_texts_399 : decode cL_texts 399 = .ok (.aload_n 0, 1) := by decide +kernel
theorem dL_texts_400 : decode cL_texts 400 = .ok (.iconst 0, 1) := by decide +kernel
theorem dL_texts_401 : decode cL_texts 401 = .ok (.invokevirtual 113, 3) := by decide +kernel
theorem dL_texts_404 : decode cL_texts 404 = .ok (.ifCond .ne 236, 3) := by decide +kernel
theorem dL_texts_407 : decode cL_texts 407 = .ok (.aload_n 0, 1) := by decide +kernel
theorem dL_texts_408 : decode cL_texts 408 = .ok (.invokevirtual 253, 3) := by decide +kernel
theorem dL_texts_411 : decode cL_texts 411 = .ok (.iconst (-1), 1) := by decide +kernel
theorem dL_texts_412 : decode cL_texts 412 = .ok (.if_icmp .ne 228, 3) := by decide +kernel
theorem dL_texts_415 : decode cL_texts 415 = .ok (.aload_n 0, 1) := by decide +kernel
theorem dL_texts_416 : decode cL_texts 416 = .ok (.invokevirtual 138, 3) := by decide +kernel
theorem dL_texts_419 : decode cL_texts 419 = .ok (.iconst 1, 1) := by decide +kernel
theorem dL_texts_420 : decode cL_texts 420 = .ok (.if_icmp .ne 220, 3) := by decide +kernel
theorem dL_texts_423 : decode cL_texts 423 = .ok (.aload_n 0, 1) := by decide +kernel
theorem dL_texts_424 : decode cL_texts 424 = .ok (.bipush 32, 2) := by decide +kernel
theorem dL_texts_426 : decode cL_texts 426 = .ok (.iconst 0, 1) := by decide +kernel
theorem dL_texts_427 : decode cL_texts 427 = .ok (.iconst 0, 1) := by decide +kernel
theorem dL_texts_428 : decode cL_texts 428 = .ok (.iconst 0, 1) := by decide +kernel
theorem dL_texts_429 : decode cL_texts 429 = .ok (.invokestatic 187, 3) := by decide +kernel
theorem dL_texts_432 : decode cL_texts 432 = .ok (.sipush (-2013), 3) := by decide +kernel
theorem dL_texts_435 : decode cL_texts 435 = .ok (.if_icmp .ne 205, 3) := by decide +kernel
theorem dL_texts_438 : decode cL_texts 438 = .ok (.aload_n 0, 1) := by decide +kernel
theorem dL_texts_439 : decode cL_texts 439 = .ok (.invokevirtual 158, 3) := by decide +kernel
theorem dL_texts_442 : decode cL_texts 442 = .ok (.iconst 1, 1) := by decide +kernel
theorem dL_texts_443 : decode cL_texts 443 = .ok (.if_icmp .ne 197, 3) := by decide +kernel
theorem dL_texts_446 : decode cL_texts 446 = .ok (.aload_n 0, 1) := by decide +kernel
theorem dL_texts_447 : decode cL_texts 447 = .ok (.invokevirtual 197, 3) := by decide +kernel
theorem dL_texts_450 : decode cL_texts 450 = .ok (.iconst 1, 1) := by decide +kernel
theorem dL_texts_451 : decode cL_texts 451 = .ok (.if_icmp .ne 189, 3) := by decide +kernel
theorem dL_texts_454 : decode cL_texts 454 = .ok (.aload_n 0, 1) := by decide +kernel
theorem dL_texts_455 : decode cL_texts 455 = .ok (.invokevirtual 246, 3) := by decide +kernel
theorem dL_texts_458 : decode cL_texts 458 = .ok (.bipush 39, 2) := by decide +kernel
theorem dL_texts_460 : decode cL_texts 460 = .ok (.if_icmp .ne 180, 3) := by decide +kernel
theorem dL_texts_463 : decode cL_texts 463 = .ok (.aload_n 0, 1) := by decide +kernel
theorem dL_texts_464 : decode cL_texts 464 = .ok (.ldc2_w 316, 3) := by decide +kernel
theorem dL_texts_467 : decode cL_texts 467 = .ok (.invokestatic 249, 3) := by decide +kernel
theorem dL_texts_470 : decode cL_texts 470 = .ok (.ifCond .eq 170, 3) := by decide +kernel
theorem dL_texts_473 : decode cL_texts 473 = .ok (.aload_n 0, 1) := by decide +kernel
theorem dL_texts_474 : decode cL_texts 474 = .ok (.ldc2_w 318, 3) := by decide +kernel
theorem dL_texts_477 : decode cL_texts 477 = .ok (.invokestatic 249, 3) := by decide +kernel
theorem dL_texts_480 : decode cL_texts 480 = .ok (.ifCond .eq 160, 3) := by decide +kernel
theorem dL_texts_483 : decode cL_texts 483 = .ok (.aload_n 0, 1) := by decide +kernel
theorem dL_texts_484 : decode cL_texts 484 = .ok (.invokevirtual 138, 3) := by decide +kernel
theorem dL_texts_487 : decode cL_texts 487 = .ok (.iconst 1, 1) := by decide +kernel
theorem dL_texts_488 : decode cL_texts 488 = .ok (.if_icmp .ne 152, 3) := by decide +kernel
theorem dL_texts_491 : decode cL_texts 491 = .ok (.aload_n 0, 1) := by decide +kernel
theorem dL_texts_492 : decode cL_texts 492 = .ok (.invokevirtual 246, 3) := by decide +kernel
theorem dL_texts_495 : decode cL_texts 495 = .ok (.bipush 11, 2) := by decide +kernel
theorem dL_texts_497 : decode cL_texts 497 = .ok (.if_icmp .ne 143, 3) := by decide +kernel
theorem dL_texts_500 : decode cL_texts 500 = .ok (.aload_n 0, 1) := by decide +kernel
theorem dL_texts_501 : decode cL_texts 501 = .ok (.ldc2_w 320, 3) := by decide +kernel
theorem dL_texts_504 : decode cL_texts 504 = .ok (.invokestatic 249, 3) := by decide +kernel
theorem dL_texts_507 : decode cL_texts 507 = .ok (.ifCond .eq 133, 3) := by decide +kernel
theorem dL_texts_510 : decode cL_texts 510 = .ok (.aload_n 0, 1) := by decide +kernel
theorem dL_texts_511 : decode cL_texts 511 = .ok (.ldc2_w 322, 3) := by decide +kernel
theorem dL_texts_514 : decode cL_texts 514 = .ok (.invokestatic 249, 3) := by decide +kernel
theorem dL_texts_517 : decode cL_texts 517 = .ok (.ifCond .eq 123, 3) := by decide +kernel
theorem dL_texts_520 : decode cL_texts 520 = .ok (.aload_n 0, 1) := by decide +kernel
theorem dL_texts_521 : decode cL_texts 521 = .ok (.invokevirtual 253, 3) := by decide +kernel
theorem dL_texts_524 : decode cL_texts 524 = .ok (.iconst (-1), 1) := by decide +kernel
theorem dL_texts_525 : decode cL_texts 525 = .ok (.if_icmp .ne 115, 3) := by decide +kernel
theorem dL_texts_528 : decode cL_texts 528 = .ok (.aload_n 0, 1) := by decide +kernel
theorem dL_texts_529 : decode cL_texts 529 = .ok (.invokevirtual 138, 3) := by decide +kernel
theorem dL_texts_532 : decode cL_texts 532 = .ok (.ifCond .ne 108, 3) := by decide +kernel
theorem dL_texts_535 : decode cL_texts 535 = .ok (.aload_n 0, 1) := by decide +kernel
theorem dL_texts_536 : decode cL_texts 536 = .ok (.invokevirtual 246, 3) := by decide +kernel
theorem dL_texts_539 : decode cL_texts 539 = .ok (.bipush 11, 2) := by decide +kernel
theorem dL_texts_541 : decode cL_texts 541 = .ok (.if_icmp .ne 99, 3) := by decide +kernel
theorem dL_texts_544 : decode cL_texts 544 = .ok (.aload_n 0, 1) := by decide +kernel
theorem dL_texts_545 : decode cL_texts 545 = .ok (.ldc2_w 324, 3) := by decide +kernel
theorem dL_texts_548 : decode cL_texts 548 = .ok (.invokestatic 249, 3) := by decide +kernel
theorem dL_texts_551 : decode cL_texts 551 = .ok (.ifCond .eq 89, 3) := by decide +kernel
theorem dL_texts_554 : decode cL_texts 554 = .ok (.aload_n 0, 1) := by decide +kernel
theorem dL_texts_555 : decode cL_texts 555 = .ok (.ldc2_w 326, 3) := by decide +kernel
theorem dL_texts_558 : decode cL_texts 558 = .ok (.invokestatic 249, 3) := by decide +kernel
theorem dL_texts_561 : decode cL_texts 561 = .ok (.ifCond .eq 79, 3) := by decide +kernel
theorem dL_texts_564 : decode cL_texts 564 = .ok (.aload_n 0, 1) := by decide +kernel
theorem dL_texts_565 : decode cL_texts 565 = .ok (.ldc2_w 328, 3) := by decide +kernel
theorem dL_texts_568 : decode cL_texts 568 = .ok (.invokestatic 249, 3) := by decide +kernel
theorem dL_texts_571 : decode cL_texts 571 = .ok (.ifCond .eq 69, 3) := by decide +kernel
theorem dL_texts_574 : decode cL_texts 574 = .ok (.aload_n 0, 1) := by decide +kernel
theorem dL_texts_575 : decode cL_texts 575 = .ok (.invokevirtual 142, 3) := by decide +kernel
theorem dL_texts_578 : decode cL_texts 578 = .ok (.iconst 3, 1) := by decide +kernel
theorem dL_texts_579 : decode cL_texts 579 = .ok (.if_icmp .ne 61, 3) := by decide +kernel
theorem dL_texts_582 : decode cL_texts 582 = .ok (.aload_n 0, 1) := by decide +kernel
theorem dL_texts_583 : decode cL_texts 583 = .ok (.iconst 0, 1) := by decide +kernel
theorem dL_texts_584 : decode cL_texts 584 = .ok (.invokevirtual 63, 3) := by decide +kernel
theorem dL_texts_587 : decode cL_texts 587 = .ok (.ifCond .ne 53, 3) := by decide +kernel
theorem dL_texts_590 : decode cL_texts 590 = .ok (.aload_n 0, 1) := by decide +kernel
theorem dL_texts_591 : decode cL_texts 591 = .ok (.iconst 0, 1) := by decide +kernel
theorem dL_texts_592 : decode cL_texts 592 = .ok (.bipush 71, 2) := by decide +kernel
theorem dL_texts_594 : decode cL_texts 594 = .ok (.invokevirtual 85, 3) := by decide +kernel
theorem dL_texts_597 : decode cL_texts 597 = .ok (.ifCond .eq 43, 3) := by decide +kernel
theorem dL_texts_600 : decode cL_texts 600 = .ok (.aload_n 0, 1) := by decide +kernel
theorem dL_texts_601 : decode cL_texts 601 = .ok (.iconst 3, 1) := by decide +kernel
theorem dL_texts_602 : decode cL_texts 602 = .ok (.invokevirtual 95, 3) := by decide +kernel
theorem dL_texts_605 : decode cL_texts 605 = .ok (.iconst 1, 1) := by decide +kernel
theorem dL_texts_606 : decode cL_texts 606 = .ok (.if_icmp .ne 34, 3) := by decide +kernel
theorem dL_texts_609 : decode cL_texts 609 = .ok (.aload_n 0, 1) := by decide +kernel
theorem dL_texts_610 : decode cL_texts 610 = .ok (.invokevirtual 145, 3) := by decide +kernel
theorem dL_texts_613 : decode cL_texts 613 = .ok (.iconst 1, 1) := by decide +kernel
theorem dL_texts_614 : decode cL_texts 614 = .ok (.if_icmp .ne 26, 3) := by decide +kernel
theorem dL_texts_617 : decode cL_texts 617 = .ok (.aload_n 0, 1) := by decide +kernel
theorem dL_texts_618 : decode cL_texts 618 = .ok (.invokevirtual 145, 3) := by decide +kernel
theorem dL_texts_621 : decode cL_texts 621 = .ok (.ifCond .ne 19, 3) := by decide +kernel
theorem dL_texts_624 : decode cL_texts 624 = .ok (.aload_n 0, 1) := by decide +kernel
theorem dL_texts_625 : decode cL_texts 625 = .ok (.invokevirtual 155, 3) := by decide +kernel
theorem dL_texts_628 : decode cL_texts 628 = .ok (.ifCond .ne 12, 3) := by decide +kernel
theorem dL_texts_631 : decode cL_texts 631 = .ok (.aload_n 0, 1) := by decide +kernel
theorem dL_texts_632 : decode cL_texts 632 = .ok (.invokevirtual 246, 3) := by decide +kernel
theorem dL_texts_635 : decode cL_texts 635 = .ok (.bipush 18, 2) := by decide +kernel
theorem dL_texts_637 : decode cL_texts 637 = .ok (.if_icmp .eq 5, 3) := by decide +kernel
theorem dL_texts_640 : decode cL_texts 640 = .ok (.iconst 0, 1) := by decide +kernel
theorem dL_texts_641 : decode cL_texts 641 = .ok (.ireturn, 1) := by decide +kernel
theorem dL_texts_642 : decode cL_texts 642 = .ok (.iconst 0, 1) := by decide +kernel
theorem dL_texts_643 : decode cL_texts 643 = .ok (.istore_n 1, 1) := by decide +kernel
theorem dL_texts_644 : decode cL_texts 644 = .ok (.iload_n 1, 1) := by decide +kernel
theorem dL_texts_645 : decode cL_texts 645 = .ok (.bipush 80, 2) := by decide +kernel
theorem dL_texts_647 : decode cL_texts 647 = .ok (.if_icmp .ge 46, 3) := by decide +kernel
theorem dL_texts_650 : decode cL_texts 650 = .ok (.aload_n 0, 1) := by decide +kernel
theorem dL_texts_651 : decode cL_texts 651 = .ok (.iload_n 1, 1) := by decide +kernel
theorem dL_texts_652 : decode cL_texts 652 = .ok (.iconst 3, 1) := by decide +kernel
theorem dL_texts_653 : decode cL_texts 653 = .ok (.irem, 1) := by decide +kernel
theorem dL_texts_654 : decode cL_texts 654 = .ok (.ifCond .ne 8, 3) := by decide +kernel
theorem dL_texts_657 : decode cL_texts 657 = .ok (.bipush 116, 2) := by decide +kernel
theorem dL_texts_659 : decode cL_texts 659 = .ok (.goto 17, 3) := by decide +kernel
theorem dL_texts_662 : decode cL_texts 662 = .ok (.iload_n 1, 1) := by decide +kernel
theorem dL_texts_663 : decode cL_texts 663 = .ok (.iconst 3, 1) := by decide +kernel
theorem dL_texts_664 : decode cL_texts 664 = .ok (.irem, 1) := by decide +kernel
theorem dL_texts_665 : decode cL_texts 665 = .ok (.iconst 1, 1) := by decide +kernel
theorem dL_texts_666 : decode cL_texts 666 = .ok (.if_icmp .ne 8, 3) := by decide +kernel
theorem dL_texts_669 : decode cL_texts 669 = .ok (.bipush 49, 2) := by decide +kernel
theorem dL_texts_671 : decode cL_texts 671 = .ok (.goto 5, 3) := by decide +kernel
theorem dL_texts_674 : decode cL_texts 674 = .ok (.bipush 59, 2) := by decide +kernel
theorem dL_texts_676 : decode cL_texts 676 = .ok (.invokevirtual 134, 3) := by decide +kernel
theorem dL_texts_679 : decode cL_texts 679 = .ok (.iload_n 1, 1) := by decide +kernel
theorem dL_texts_680 : decode cL_texts 680 = .ok (.iconst 1, 1) := by decide +kernel
theorem dL_texts_681 : decode cL_texts 681 = .ok (.iadd, 1) := by decide +kernel
theorem dL_texts_682 : decode cL_texts 682 = .ok (.if_icmp .eq 5, 3) := by decide +kernel
theorem dL_texts_685 : decode cL_texts 685 = .ok (.iconst 0, 1) := by decide +kernel
theorem dL_texts_686 : decode cL_texts 686 = .ok (.ireturn, 1) := by decide +kernel
theorem dL_texts_687 : decode cL_texts 687 = .ok (.iinc 1 1, 3) := by decide +kernel
theorem dL_texts_690 : decode cL_texts 690 = .ok (.goto (-46), 3) := by decide +kernel
theorem dL_texts_693 : decode cL_texts 693 = .ok (.aload_n 0, 1) := by decide +kernel
theorem dL_texts_694 : decode cL_texts 694 = .ok (.bipush 30, 2) := by decide +kernel
theorem dL_texts_696 : decode cL_texts 696 = .ok (.bipush 120, 2) := by decide +kernel
theorem dL_texts_698 : decode cL_texts 698 = .ok (.iconst 0, 1) := by decide +kernel
theorem dL_texts_699 : decode cL_texts 699 = .ok (.iconst 0, 1) := by decide +kernel
theorem dL_texts_700 : decode cL_texts 700 = .ok (.invokestatic 187, 3) := by decide +kernel
theorem dL_texts_703 : decode cL_texts 703 = .ok (.sipush (-2013), 3) := by decide +kernel
theorem dL_texts_706 : decode cL_texts 706 = .ok (.if_icmp .ne 50, 3) := by decide +kernel
theorem dL_texts_709 : decode cL_texts 709 = .ok (.aload_n 0, 1) := by decide +kernel
theorem dL_texts_710 : decode cL_texts 710 = .ok (.invokevirtual 253, 3) := by decide +kernel
theorem dL_texts_713 : decode cL_texts 713 = .ok (.iconst (-1), 1) := by decide +kernel
theorem dL_texts_714 : decode cL_texts 714 = .ok (.if_icmp .ne 42, 3) := by decide +kernel
theorem dL_texts_717 : decode cL_texts 717 = .ok (.aload_n 0, 1) := by decide +kernel
theorem dL_texts_718 : decode cL_texts 718 = .ok (.invokevirtual 246, 3) := by decide +kernel
theorem dL_texts_721 : decode cL_texts 721 = .ok (.bipush 80, 2) := by decide +kernel
theorem dL_texts_723 : decode cL_texts 723 = .ok (.if_icmp .ne 33, 3) := by decide +kernel
theorem dL_texts_726 : decode cL_texts 726 = .ok (.aload_n 0, 1) := by decide +kernel
theorem dL_texts_727 : decode cL_texts 727 = .ok (.sipush 960, 3) := by decide +kernel
theorem dL_texts_730 : decode cL_texts 730 = .ok (.invokevirtual 134, 3) := by decide +kernel
theorem dL_texts_733 : decode cL_texts 733 = .ok (.iconst 1, 1) := by decide +kernel
theorem dL_texts_734 : decode cL_texts 734 = .ok (.if_icmp .ne 22, 3) := by decide +kernel
theorem dL_texts_737 : decode cL_texts 737 = .ok (.aload_n 0, 1) := by decide +kernel
theorem dL_texts_738 : decode cL_texts 738 = .ok (.invokevirtual 253, 3) := by decide +kernel
theorem dL_texts_741 : decode cL_texts 741 = .ok (.ifCond .ne 15, 3) := by decide +kernel
theorem dL_texts_744 : decode cL_texts 744 = .ok (.aload_n 0, 1) := by decide +kernel
theorem dL_texts_745 : decode cL_texts 745 = .ok (.invokevirtual 246, 3) := by decide +kernel
theorem dL_texts_748 : decode cL_texts 748 = .ok (.iconst 1, 1) := by decide +kernel
theorem dL_texts_749 : decode cL_texts 749 = .ok (.if_icmp .ne 7, 3) := by decide +kernel
theorem dL_texts_752 : decode cL_texts 752 = .ok (.iconst 1, 1) := by decide +kernel
theorem dL_texts_753 : decode cL_texts 753 = .ok (.goto 4, 3) := by decide +kernel
theorem dL_texts_756 : decode cL_texts 756 = .ok (.iconst 0, 1) := by decide +kernel
theorem dL_texts_757 : decode cL_texts 757 = .ok (.ireturn, 1) := by decide +kernel
set_option maxRecDepth 20000 in
theorem ggL_law_L_choirs : GoodIn wsL_law wsL_choirs := goodIn_ca (goodIn_ca (goodIn_ca (goodIn_r _ [8, 0, 1, 2, 9, 10, 11, 12, 13, 14, 15, 16, 17, 18, 19, 20, 21, 22, 23, 24, 25, 26, 27, 28, 29, 30, 31, 32, 33, 34, 35, 36, 37, 38, 39, 40, 41, 42, 43, 44, 45, 46, 47, 48, 49, 50, 51, 52, 53, 54, 55, 56, 57, 58, 59, 60, 61, 62, 63, 64, 65, 66, 67, 68, 69, 70, 71, 72, 73, 74, 75, 76, 77, 78, 79, 80, 81, 82, 83, 84, 85, 86, 87, 88, 89, 90, 91, 92, 93, 94, 95, 96, 97, 98, 99, 100, 101, 102, 103, 104, 105, 106, 107, 108, 7, 109, 110, 111, 112, 113, 114, 115, 116, 117, 118, 119, 120, 121, 122, 123, 124, 125, 126, 127, 128, 129, 130, 131, 132, 133, 134, 135, 136, 137, 138, 139, 140, 141, 142, 143, 144, 145, 146, 147, 148, 149, 150, 151, 152, 153, 154, 155, 156, 157, 158, 159, 160, 161, 162, 163, 164, 165, 166, 167, 168, 169, 170, 171, 172, 173, 174, 175, 176, 177, 178, 179, 180, 181, 182, 183, 184, 185, 186, 187, 188, 189, 190, 191, 192, 193, 194, 195, 196, 197, 198, 199, 200, 201, 202, 203, 204, 205, 206, 207, 208, 209, 210, 211, 212, 213, 214, 215, 216, 217, 218, 219, 220, 221, 222, 223, 224, 225, 226, 227, 228, 229, 230, 231, 232, 233, 234, 235, 236, 237, 238, 239, 240, 241, 242, 243, 244, 245, 246, 247, 248, 249, 250, 251, 252, 253, 254, 255, 256, 257, 258, 259, 260, 261, 262, 263, 264, 265, 266, 267, 268, 269, 270, 271, 272, 273, 274, 275, 276, 277, 278, 279, 280, 281, 282, 283, 284, 285, 286, 287, 288, 289, 290, 291, 292, 293, 294, 295, 296, 297, 298, 299, 300, 301, 302, 303, 304, 305, 306, 307, 308, 309, 310, 311, 312, 313, 314, 315, 316, 317, 318, 319, 320, 321, 322, 323, 324, 325, 326, 327, 328, 329, 330, 331, 332, 333, 334, 335, 336, 337, 338, 339, 340, 341, 342, 343, 344, 345, 346, 347, 348, 349, 350, 351, 352, 353, 354, 355, 356, 357, 358, 359, 360, 361, 362, 363, 364, 365, 366, 367, 368, 369, 370, 371, 372, 373, 374, 375, 376, 377, 378, 379, 380, 381, 382, 383, 384, 385, 386, 387, 388, 389, 390, 391, 392, 393, 394, 395, 396, 397, 398, 399, 400, 401, 402, 403, 404, 405, 406, 407, 408, 409, 410, 411, 412, 413, 414, 415, 416, 417, 418, 419, 420, 421, 422, 423, 424, 425, 426, 427, 428, 429, 430, 431, 432, 433, 434, 435, 436, 437, 438, 439, 440, 441, 442, 443, 444, 445, 446, 447, 448, 449, 450, 451, 452, 453, 454, 455, 456, 457, 458, 459, 460, 461, 462, 463, 464, 465, 466, 467, 468, 469, 470, 471, 472, 473, 474, 475, 476, 477, 478, 479, 480, 481, 482, 483, 484, 485, 486, 487, 488, 489, 490, 491, 492, 493, 494, 495, 496, 497, 498, 499, 500, 501, 502, 503, 504, 505, 506, 507, 508, 509, 510, 511, 512, 513, 514, 515, 516, 517, 518, 519, 520, 521, 522, 523, 524, 525, 526, 527, 528, 529, 530, 531, 532, 533, 534, 535, 536, 537, 538, 539, 540, 541, 542, 543, 544, 545, 546, 547, 548, 549, 550, 551, 552, 553, 554, 555, 556, 557, 558, 559, 560, 561, 562, 563, 564, 565, 566, 567, 568, 569, 570, 571, 572, 573, 574, 575, 576, 577, 578, 579, 580, 581, 582, 583, 584, 585, 586, 587, 588, 589, 590, 591, 592, 593, 594, 595, 596, 597, 598, 599, 600, 601, 602, 603, 604, 605, 606, 607, 608, 609, 610, 611, 612, 613, 614, 615, 616, 617, 618, 619, 620, 621, 622, 623, 624, 625, 626, 627, 628, 629, 630, 631, 632, 633, 634, 635, 636, 637, 638, 639, 640, 641, 642, 643, 644, 645, 646, 647, 648, 649, 650, 651, 652, 653, 654, 655, 656, 657, 658, 659, 660, 661, 662, 663, 664, 665, 666, 667, 668, 669, 670, 671, 672, 673, 674, 675, 676, 677, 678, 679, 680, 681, 682, 683, 684, 685, 686, 687, 688, 689, 690, 691, 692, 693, 694, 695, 696, 697, 698, 699, 700, 701, 702, 703, 704, 705, 706, 707, 708, 709, 710, 711, 712, 713, 714, 715, 716, 717, 718, 719, 720, 721, 722, 723, 724, 725, 726, 727, 728, 729, 730, 731, 732, 733, 734, 735, 736, 737, 738, 739, 740, 741, 742, 743, 744, 745, 746, 747, 748, 749, 750, 751, 752, 753, 754, 755, 756, 757, 758, 759, 760, 761, 762, 763, 764, 765, 766, 767, 768, 769, 770, 771, 772, 773, 774, 775, 776, 777, 778, 779, 780, 781, 782, 783, 784, 785, 786, 787, 788, 789, 790, 791, 792, 793, 794, 795, 796, 797, 798, 799, 800, 801, 802, 803, 804, 805, 806, 807, 808, 809, 810, 811, 812, 813, 814, 815, 816, 817, 818, 819, 820, 821, 822, 823, 824, 825, 826, 827, 828, 829, 830, 831, 832, 833, 834, 835, 836, 837, 838, 839, 840, 841, 842, 843, 844, 845, 846, 847, 848, 849, 850, 851, 852, 853, 854, 855, 856, 857, 858, 859, 860, 861, 862, 863, 864, 865, 866, 867, 868, 869, 870, 871, 872, 873, 874, 875, 876, 877, 878, 879, 880, 881, 882, 883, 884, 885, 886, 887, 888, 889, 890, 891, 892, 893, 894, 895, 896, 897, 898, 899, 964, 965, 966, 967, 968, 969, 970, 971, 972, 973, 974, 975, 976, 977, 978, 979, 980, 981, 982, 983, 984, 985, 986, 987, 988, 989, 990, 991, 992, 993, 994, 995, 996, 997, 998, 999, 1000, 1001, 1002, 1003, 1004, 1005, 1006, 1007, 1008, 1009, 1010, 1011, 1012, 1013, 1014, 1015, 1016] rfl (by decide +kernel)) (goodIn_sub (fun _ h => List.mem_append_left _ (List.mem_append_left _ (List.mem_append_right _ h))) (by decide +kernel))) (goodIn_sub (fun _ h => List.mem_append_left _ (List.mem_append_right _ h)) (by decide +kernel))) (goodIn_sub (fun _ h => List.mem_append_right _ h) (by decide +kernel))
set_option maxRecDepth 20000 in
theorem gL_law_L_choirs : GoodIn wsL_law (va_wsS RL 330 yL_choirs wsL_choirs) := goodIn_app (goodIn_of _ (by decide +kernel)) ggL_law_L_choirs
set_option maxRecDepth 20000 in
theorem ggL_law_L_texts : GoodIn wsL_law wsL_texts := goodIn_ca (goodIn_ca (goodIn_ca (goodIn_r _ [902, 0, 1, 2, 903, 904, 905, 906, 907, 908, 909, 910, 911, 912, 913, 914, 915, 916, 917, 918, 919, 920, 921, 922, 923, 924, 925, 926, 927, 928, 929, 930, 931, 932, 933, 934, 935, 936, 937, 9, 10, 11, 12, 13, 14, 15, 16, 17, 18, 19, 20, 21, 22, 23, 24, 25, 26, 27, 28, 29, 30, 31, 32, 33, 34, 35, 36, 37, 38, 39, 40, 41, 42, 43, 44, 45, 46, 47, 48, 49, 50, 51, 52, 53, 54, 55, 56, 57, 58, 59, 60, 61, 62, 63, 64, 65, 66, 67, 68, 69, 70, 71, 72, 73, 74, 75, 76, 77, 78, 79, 80, 81, 82, 83, 84, 85, 86, 87, 88, 89, 90, 91, 92, 93, 94, 95, 96, 97, 98, 99, 100, 101, 102, 103, 104, 105, 106, 938, 939, 7, 940, 941, 942, 943, 944, 945, 946, 947, 948, 949, 950, 951, 952, 604, 605, 606, 607, 608, 609, 610, 611, 136, 137, 138, 139, 140, 141, 142, 143, 144, 612, 613, 614, 615, 953, 954, 955, 956, 620, 621, 622, 623, 624, 625, 626, 627, 628, 629, 630, 631, 632, 633, 634, 635, 636, 637, 638, 639, 640, 641, 642, 643, 644, 645, 646, 647, 648, 649, 650, 651, 652, 653, 654, 655, 656, 657, 658, 659, 660, 661, 662, 663, 664, 665, 666, 667, 668, 669, 670, 671, 672, 673, 674, 675, 676, 677, 678, 679, 680, 681, 682, 683, 684, 685, 686, 687, 688, 689, 690, 691, 692, 693, 694, 695, 696, 697, 698, 699, 700, 701, 702, 703, 704, 705, 706, 707, 708, 709, 710, 711, 712, 713, 714, 715, 716, 717, 718, 719, 720, 721, 722, 723, 724, 725, 726, 727, 728, 729, 730, 731, 732, 733, 734, 735, 736, 737, 738, 739, 740, 741, 742, 743, 744, 745, 746, 747, 748, 749, 750, 751, 752, 753, 754, 755, 756, 124, 125, 757, 758, 759, 616, 617, 618, 619, 760, 761, 762, 763, 764, 765, 766, 153, 154, 155, 156, 157, 158, 159, 160, 161, 162, 163, 164, 165, 166, 167, 168, 169, 170, 171, 172, 173, 174, 175, 767, 768, 769, 770, 771, 772, 773, 120, 121, 122, 123, 126, 127, 128, 129, 130, 131, 132, 133, 134, 135, 271, 272, 273, 274, 275, 276, 277, 278, 279, 280, 281, 282, 299, 300, 301, 302, 303, 304, 305, 306, 307, 308, 309, 310, 311, 312, 313, 247, 248, 249, 250, 194, 195, 196, 197, 251, 252, 253, 254, 255, 256, 257, 258, 198, 199, 200, 201, 230, 231, 232, 233, 224, 234, 235, 236, 237, 190, 191, 192, 193, 329, 330, 331, 332, 774, 775, 776, 777, 176, 177, 178, 179, 180, 181, 182, 183, 184, 185, 283, 284, 285, 286, 287, 288, 289, 290, 291, 292, 293, 294, 314, 315, 316, 317, 318, 319, 320, 321, 322, 323, 324, 259, 260, 261, 262, 263, 264, 265, 266, 238, 239, 240, 241, 242, 202, 203, 204, 205, 206, 207, 208, 209, 210, 211, 333, 334, 335, 336, 337, 338, 339, 340, 341, 342, 343, 344, 345, 346, 347, 348, 349, 350, 351, 352, 353, 354, 355, 356, 357, 358, 359, 360, 361, 362, 363, 364, 365, 366, 367, 368, 369, 370, 371, 372, 373, 374, 375, 376, 377, 378, 379, 380, 381, 382, 383, 384, 385, 386, 387, 388, 389, 390, 391, 392, 393, 394, 395, 396, 397, 398, 399, 400, 401, 402, 403, 404, 405, 406, 407, 408, 409, 410, 411, 412, 413, 414, 415, 416, 417, 418, 419, 420, 421, 422, 423, 424, 425, 225, 426, 427, 428, 429, 430, 431, 432, 433, 434, 778, 779, 780, 781, 145, 146, 147, 148, 149, 150, 151, 152, 782, 783, 784, 785, 794, 795, 796, 797, 443, 808, 809, 810, 811, 812, 813, 814, 815, 816, 817, 818, 819, 820, 821, 822, 823, 824, 825, 826, 827, 828, 829, 830, 831, 832, 833, 834, 835, 466, 467, 468, 469, 442, 470, 444, 445, 446, 447, 448, 548, 549, 550, 551, 510, 552, 512, 513, 514, 515, 516, 521, 553, 554, 555, 556, 557, 558, 559, 532, 560, 107, 108, 109, 110, 111, 112, 113, 114, 115, 116, 117, 118, 119, 186, 187, 188, 189, 212, 213, 214, 215, 216, 217, 218, 219, 220, 221, 222, 223, 226, 227, 228, 229, 243, 244, 245, 246, 267, 268, 269, 270, 295, 296, 297, 298, 325, 326, 327, 328, 435, 436, 437, 438, 439, 440, 441, 449, 450, 451, 452, 453, 454, 455, 456, 457, 458, 459, 460, 461, 462, 463, 464, 465, 471, 472, 473, 474, 475, 476, 477, 478, 479, 480, 481, 482, 483, 484, 485, 486, 487, 488, 489, 490, 491, 492, 493, 494, 495, 496, 497, 498, 499, 500, 501, 502, 503, 504, 505, 506, 507, 508, 509, 511, 517, 518, 519, 520, 522, 523, 524, 525, 526, 527, 528, 529, 530, 531, 533, 534, 535, 536, 537, 538, 539, 540, 541, 542, 543, 544, 545, 546, 547, 561, 562, 563, 564, 565, 566, 567, 568, 569, 570, 571, 572, 573, 574, 575, 576, 577, 578, 579, 580, 581, 582, 583, 584, 585, 586, 587, 588, 589, 590, 591, 592, 593, 594, 595, 596, 597, 598, 599, 600, 601, 602, 603, 786, 787, 788, 789, 790, 791, 792, 793, 798, 799, 800, 801, 802, 857, 858, 859, 860, 964, 965, 966, 967, 968, 969, 970, 971, 972, 973, 974, 975, 976, 977, 978, 979, 980, 981, 982, 983, 984, 985, 986, 987, 988, 989, 990, 991, 992, 993, 994, 995, 996, 997, 998, 999, 1000, 1001, 1002, 1003, 1004, 1005, 1006, 1007, 1008, 1009, 1010, 1011, 1012, 1013, 1014, 1015, 1016] rfl (by decide +kernel)) (goodIn_sub (fun _ h => List.mem_append_left _ (List.mem_append_left _ (List.mem_append_right _ h))) (by decide +kernel))) (goodIn_sub (fun _ h => List.mem_append_left _ (List.mem_append_right _ h)) (by decide +kernel))) (goodIn_sub (fun _ h => List.mem_append_right _ h) (by decide +kernel))
set_option maxRecDepth 20000 in
theorem gL_law_L_texts : GoodIn wsL_law (va_wsS RL 333 yL_texts wsL_texts) := goodIn_app (goodIn_of _ (by decide +kernel)) ggL_law_L_texts
set_option maxRecDepth 20000 in
theorem ggL_law_X6_init : GoodIn wsL_law wsX6_init := goodIn_r _ [11, 12, 13, 14, 15, 16, 17, 18, 19, 20, 21, 22, 23, 24, 25, 26, 27, 28, 29, 30, 31, 32, 33, 34, 35, 36, 37, 38, 39, 40, 41, 42, 43, 44, 45, 46, 47, 48, 49, 50, 51, 52, 53, 54, 55, 56, 57, 58, 59, 60, 61, 62, 63, 64, 65, 66, 67, 68, 69, 70, 71, 72, 73, 74, 75, 76, 77, 78, 79, 80, 81, 82, 83, 84, 85, 86, 87, 88, 89, 90, 91, 92, 93, 94, 95, 96, 97, 98, 99, 100, 101, 102, 103, 104, 105, 106, 972, 973, 974, 975, 976, 977, 978, 979, 980, 981, 964, 965, 966, 967, 968, 969, 970, 971, 982, 983, 984, 985, 986, 987, 988, 989, 990, 991, 992, 993, 994, 995, 996, 997, 998, 999, 1000, 1001, 1002, 1003, 1004, 1005, 1006, 1007, 1008, 1009, 1010, 1011, 1012, 1013, 1014, 1015, 1016] rfl (by decide +kernel)
set_option maxRecDepth 20000 in
theorem gL_law_X6_init : GoodIn wsL_law (wsX6_init) := ggL_law_X6_init
set_option maxRecDepth 20000 in
theorem ggL_law_X6_register : GoodIn wsL_law wsX6_register := goodIn_ca (goodIn_ca (goodIn_ca (goodIn_r _ [119, 18, 120, 121, 122, 17, 123, 39, 124, 2, 125, 126, 127, 128, 129, 130, 131, 132, 133, 134, 38, 135, 58, 136, 137, 138, 139, 140, 141, 142, 143, 144, 145, 146, 147, 148, 23, 22, 149, 150, 151, 152, 153, 154, 155, 156, 35, 43, 47, 49, 157, 158, 159, 160, 50, 51, 52, 53, 54, 161, 162, 163, 164, 59, 165, 60, 61, 62, 63, 64, 65, 66, 67, 68, 69, 166, 167, 168, 42, 169, 73, 74, 170, 75, 76, 171, 172, 173, 46, 174, 80, 81, 175, 82, 83, 85, 86, 87, 88, 176, 177, 178, 179, 180, 181, 182, 183, 184, 185, 964, 965, 966, 967, 968, 969, 970, 971, 972, 973, 974, 975, 976, 977, 978, 979, 980, 981, 993, 994, 995, 996, 997, 998, 999, 1000, 1001, 1002, 1003, 1004, 1005, 1006, 1007, 1008, 1009, 1010, 1011, 1012, 1013, 1014, 1015, 1016] rfl (by decide +kernel)) (goodIn_sub (fun _ h => List.mem_append_left _ (List.mem_append_left _ (List.mem_append_right _ h))) (by decide +kernel))) (goodIn_sub (fun _ h => List.mem_append_left _ (List.mem_append_right _ h)) (by decide +kernel))) (goodIn_sub (fun _ h => List.mem_append_right _ h) (by decide +kernel))
set_option maxRecDepth 20000 in
theorem gL_law_X6_register : GoodIn wsL_law (wsV RL 32 RX6 yX6_register wsX6_register) := goodIn_app (goodIn_of _ (by decide +kernel)) ggL_law_X6_register
set_option maxRecDepth 20000 in
theorem ggL_law_X6_announce : GoodIn wsL_law wsX6_announce := goodIn_ca (goodIn_ca (goodIn_ca (goodIn_r _ [270, 18, 271, 272, 273, 17, 274, 35, 47, 124, 2, 125, 275, 276, 277, 46, 278, 80, 279, 280, 281, 282, 81, 136, 137, 138, 139, 140, 141, 142, 143, 144, 145, 146, 147, 148, 23, 22, 149, 150, 151, 152, 153, 154, 155, 156, 39, 43, 49, 157, 158, 159, 160, 50, 51, 52, 53, 54, 161, 162, 163, 38, 164, 58, 59, 165, 60, 61, 62, 63, 64, 65, 66, 67, 68, 69, 166, 167, 168, 42, 169, 73, 74, 170, 75, 76, 171, 172, 173, 174, 175, 82, 83, 85, 86, 87, 88, 283, 284, 285, 286, 287, 288, 289, 290, 291, 292, 293, 294, 964, 965, 966, 967, 968, 969, 970, 971, 972, 973, 974, 975, 976, 977, 978, 979, 980, 981, 1009, 1010, 1011, 1012, 1013, 1014, 1015, 1016, 993, 994, 995, 996, 997, 998, 999, 1000, 1001, 1002, 1003, 1004, 1005, 1006, 1007, 1008] rfl (by decide +kernel)) (goodIn_sub (fun _ h => List.mem_append_left _ (List.mem_append_left _ (List.mem_append_right _ h))) (by decide +kernel))) (goodIn_sub (fun _ h => List.mem_append_left _ (List.mem_append_right _ h)) (by decide +kernel))) (goodIn_sub (fun _ h => List.mem_append_right _ h) (by decide +kernel))
set_option maxRecDepth 20000 in
theorem gL_law_X6_announce : GoodIn wsL_law (wsV RL 53 RX6 yX6_announce wsX6_announce) := goodIn_app (goodIn_of _ (by decide +kernel)) ggL_law_X6_announce
set_option maxRecDepth 20000 in
theorem ggL_law_X6_setLine : GoodIn wsL_law wsX6_setLine := goodIn_ca (goodIn_ca (goodIn_ca (goodIn_r _ [298, 18, 299, 300, 301, 17, 302, 47, 303, 304, 305, 46, 306, 80, 307, 2, 308, 128, 124, 125, 130, 131, 309, 310, 311, 312, 313, 35, 136, 137, 138, 139, 140, 141, 142, 143, 144, 145, 146, 147, 148, 23, 22, 149, 150, 151, 152, 153, 154, 155, 156, 39, 43, 49, 157, 158, 159, 160, 50, 51, 52, 53, 54, 161, 162, 163, 38, 164, 58, 59, 165, 60, 61, 62, 63, 64, 65, 66, 67, 68, 69, 166, 167, 168, 42, 169, 73, 74, 170, 75, 76, 171, 172, 173, 174, 81, 175, 82, 83, 85, 86, 87, 88, 314, 315, 316, 317, 318, 319, 320, 321, 322, 323, 324, 964, 965, 966, 967, 968, 969, 970, 971, 972, 973, 974, 975, 976, 977, 978, 979, 980, 981, 1009, 1010, 1011, 1012, 1013, 1014, 1015, 1016, 993, 994, 995, 996, 997, 998, 999, 1000, 1001, 1002, 1003, 1004, 1005, 1006, 1007, 1008] rfl (by decide +kernel)) (goodIn_sub (fun _ h => List.mem_append_left _ (List.mem_append_left _ (List.mem_append_right _ h))) (by decide +kernel))) (goodIn_sub (fun _ h => List.mem_append_left _ (List.mem_append_right _ h)) (by decide +kernel))) (goodIn_sub (fun _ h => List.mem_append_right _ h) (by decide +kernel))
set_option maxRecDepth 20000 in
theorem gL_law_X6_setLine : GoodIn wsL_law (wsV RL 57 RX6 yX6_setLine wsX6_setLine) := goodIn_app (goodIn_of _ (by decide +kernel)) ggL_law_X6_setLine
set_option maxRecDepth 20000 in
theorem ggL_law_X6_takeSnapshot : GoodIn wsL_law wsX6_takeSnapshot := goodIn_r _ [890, 20, 18, 21, 443, 153, 154, 155, 17, 156, 35, 39, 43, 47, 49, 157, 158, 159, 160, 50, 51, 52, 53, 54, 161, 162, 163, 38, 164, 58, 59, 165, 60, 61, 62, 63, 64, 65, 66, 67, 68, 69, 166, 167, 168, 42, 169, 73, 74, 170, 75, 76, 171, 172, 173, 46, 174, 80, 81, 175, 82, 83, 85, 86, 87, 88, 964, 965, 966, 967, 968, 969, 970, 971, 972, 973, 974, 975, 976, 977, 978, 979, 980, 981, 993, 994, 995, 996, 997, 998, 999, 1000, 1001, 1002, 1003, 1004, 1005, 1006, 1007, 1008, 1009, 1010, 1011, 1012, 1013, 1014, 1015, 1016] rfl (by decide +kernel)
set_option maxRecDepth 20000 in
theorem gL_law_X6_takeSnapshot : GoodIn wsL_law (wsV RL 231 RX6 yX6_takeSnapshot wsX6_takeSnapshot) := goodIn_app (goodIn_of _ (by decide +kernel)) ggL_law_X6_takeSnapshot
set_option maxRecDepth 20000 in
theorem ggL_law_L_seen : GoodIn wsL_law wsL_seen := goodIn_ca (goodIn_ca (goodIn_ca (goodIn_r _ [854, 855, 856, 794, 795, 796, 2, 797, 18, 443, 798, 799, 800, 801, 442, 802, 803, 804, 805, 806, 510, 807, 811, 812, 813, 814, 815, 824, 825, 826, 827, 820, 828, 829, 830, 831, 822, 832, 833, 834, 835, 823, 455, 456, 457, 458, 459, 444, 445, 446, 447, 448, 195, 196, 38, 197, 58, 136, 137, 138, 139, 140, 141, 142, 143, 144, 460, 370, 371, 372, 63, 466, 467, 468, 469, 470, 438, 439, 440, 441, 449, 199, 200, 201, 66, 471, 472, 473, 474, 475, 476, 477, 478, 479, 480, 481, 235, 236, 237, 67, 488, 489, 490, 491, 492, 493, 494, 495, 496, 497, 506, 507, 508, 509, 511, 512, 513, 514, 515, 516, 304, 305, 46, 306, 80, 522, 523, 524, 525, 31, 526, 527, 528, 30, 529, 345, 530, 102, 347, 158, 159, 160, 531, 310, 311, 17, 312, 47, 313, 35, 532, 342, 343, 344, 346, 104, 348, 349, 103, 350, 351, 352, 353, 354, 355, 356, 357, 358, 39, 43, 198, 234, 255, 256, 257, 42, 258, 73, 74, 75, 76, 359, 360, 361, 362, 363, 364, 365, 366, 319, 367, 320, 368, 369, 373, 292, 293, 294, 374, 375, 376, 377, 105, 378, 379, 380, 381, 382, 383, 384, 385, 386, 387, 388, 389, 390, 391, 392, 393, 394, 395, 396, 397, 398, 399, 400, 401, 402, 403, 533, 322, 323, 324, 85, 534, 428, 429, 430, 431, 432, 433, 434, 548, 549, 550, 551, 552, 521, 553, 554, 555, 556, 557, 106, 558, 559, 338, 339, 340, 81, 560, 415, 416, 417, 418, 419, 420, 421, 62, 566, 567, 568, 569, 547, 570, 571, 572, 573, 307, 308, 128, 124, 125, 574, 575, 576, 577, 578, 498, 499, 500, 501, 502, 964, 965, 966, 967, 968, 969, 970, 971, 972, 973, 974, 975, 976, 977, 978, 979, 980, 981, 993, 994, 995, 996, 997, 998, 999, 1000, 1001, 1002, 1003, 1004, 1009, 1010, 1011, 1012, 1013, 1014, 1015, 1016, 988, 989, 990, 991, 992, 1005, 1006, 1007, 1008] rfl (by decide +kernel)) (goodIn_sub (fun _ h => List.mem_append_left _ (List.mem_append_left _ (List.mem_append_right _ h))) (by decide +kernel))) (goodIn_sub (fun _ h => List.mem_append_left _ (List.mem_append_right _ h)) (by decide +kernel))) (goodIn_sub (fun _ h => List.mem_append_right _ h) (by decide +kernel))
set_option maxRecDepth 20000 in
theorem gL_law_L_seen : GoodIn wsL_law (va_wsS RL 193 yL_seen wsL_seen) := goodIn_app (goodIn_of _ (by decide +kernel)) ggL_law_L_seen
set_option maxRecDepth 20000 in
theorem ggL_law_L_drawn : GoodIn wsL_law wsL_drawn := goodIn_r _ [959, 960] rfl (by decide +kernel)
set_option maxRecDepth 20000 in
theorem gL_law_L_drawn : GoodIn wsL_law (va_wsS RL 336 yL_drawn wsL_drawn) := goodIn_app (goodIn_of _ (by decide +kernel)) ggL_law_L_drawn
set_option maxRecDepth 20000 in
theorem ggL_law_L_part : GoodIn wsL_law wsL_part := goodIn_r _ [963, 868] rfl (by decide +kernel)
set_option maxRecDepth 20000 in
theorem gL_law_L_part : GoodIn wsL_law (va_wsS RL 340 yL_part wsL_part) := goodIn_app (goodIn_of _ (by decide +kernel)) ggL_law_L_part
set_option maxRecDepth 20000 in
theorem ggL_law_X6_recordedStates : GoodIn wsL_law wsX6_recordedStates := goodIn_r _ [860, 23, 964, 965, 966, 967, 968, 969, 970, 971] rfl (by decide +kernel)
set_option maxRecDepth 20000 in
theorem gL_law_X6_recordedStates : GoodIn wsL_law (wsV RL 197 RX6 yX6_recordedStates wsX6_recordedStates) := goodIn_app (goodIn_of _ (by decide +kernel)) ggL_law_X6_recordedStates
set_option maxRecDepth 20000 in
theorem ggL_law_L_call : GoodIn wsL_law wsL_call := goodIn_ca (goodIn_ca (goodIn_ca (goodIn_r _ [109, 110, 111, 112, 113, 114, 7, 115, 116, 117, 118, 2, 119, 18, 120, 121, 122, 17, 123, 39, 124, 125, 126, 127, 128, 129, 130, 131, 132, 133, 134, 38, 135, 58, 136, 137, 138, 139, 140, 141, 142, 143, 144, 145, 146, 147, 148, 23, 22, 149, 150, 151, 152, 153, 154, 155, 156, 35, 43, 47, 49, 157, 158, 159, 160, 50, 51, 52, 53, 54, 161, 162, 163, 164, 59, 165, 60, 61, 62, 63, 64, 65, 66, 67, 68, 69, 166, 167, 168, 42, 169, 73, 74, 170, 75, 76, 171, 172, 173, 46, 174, 80, 81, 175, 82, 83, 85, 86, 87, 88, 176, 177, 178, 179, 180, 181, 182, 183, 184, 185, 186, 187, 188, 189, 190, 191, 192, 193, 194, 195, 196, 197, 198, 199, 200, 201, 202, 203, 204, 205, 206, 207, 208, 209, 210, 211, 212, 213, 214, 215, 216, 217, 218, 219, 220, 221, 222, 223, 224, 225, 226, 227, 228, 229, 230, 231, 232, 233, 234, 235, 236, 237, 238, 239, 240, 241, 242, 243, 244, 245, 246, 247, 248, 249, 250, 251, 252, 253, 254, 255, 256, 257, 258, 259, 260, 261, 262, 263, 264, 265, 266, 267, 268, 269, 270, 271, 272, 273, 274, 275, 276, 277, 278, 279, 280, 281, 282, 283, 284, 285, 286, 287, 288, 289, 290, 291, 292, 293, 294, 295, 296, 297, 298, 299, 300, 301, 302, 303, 304, 305, 306, 307, 308, 309, 310, 311, 312, 313, 314, 315, 316, 317, 318, 319, 320, 321, 322, 323, 324, 325, 326, 327, 328, 31, 329, 330, 331, 332, 333, 334, 335, 336, 337, 338, 339, 340, 341, 342, 343, 30, 344, 102, 345, 346, 104, 347, 348, 349, 103, 350, 351, 352, 353, 354, 355, 356, 357, 358, 359, 360, 361, 362, 363, 364, 365, 366, 367, 368, 369, 370, 371, 372, 373, 374, 375, 376, 377, 105, 378, 379, 380, 381, 382, 383, 384, 385, 386, 387, 388, 389, 390, 391, 392, 393, 394, 395, 396, 397, 398, 399, 400, 401, 402, 403, 404, 405, 406, 407, 408, 409, 410, 411, 412, 413, 414, 415, 416, 417, 418, 419, 420, 421, 422, 423, 424, 425, 426, 427, 428, 429, 430, 431, 432, 433, 434, 435, 436, 437, 438, 439, 440, 441, 442, 443, 444, 445, 446, 447, 448, 449, 450, 451, 452, 453, 454, 455, 456, 457, 458, 459, 460, 461, 462, 463, 464, 465, 466, 467, 468, 469, 470, 471, 472, 473, 474, 475, 476, 477, 478, 479, 480, 481, 482, 483, 484, 485, 486, 487, 488, 489, 490, 491, 492, 493, 494, 495, 496, 497, 498, 499, 500, 501, 502, 503, 504, 505, 506, 507, 508, 509, 510, 511, 512, 513, 514, 515, 516, 517, 518, 519, 520, 521, 522, 523, 524, 525, 526, 527, 528, 529, 530, 531, 532, 533, 534, 535, 536, 537, 538, 539, 540, 541, 542, 543, 544, 545, 546, 547, 548, 549, 550, 551, 552, 553, 554, 555, 556, 557, 106, 558, 559, 560, 561, 562, 563, 564, 565, 566, 567, 568, 569, 570, 571, 572, 573, 574, 575, 576, 577, 578, 579, 580, 581, 582, 583, 584, 585, 586, 587, 588, 589, 590, 591, 592, 593, 594, 595, 596, 597, 598, 599, 600, 601, 602, 603, 604, 605, 606, 607, 27, 608, 609, 610, 26, 611, 94, 612, 613, 614, 615, 93, 616, 617, 618, 619, 620, 621, 622, 623, 95, 624, 625, 626, 627, 628, 629, 630, 631, 96, 98, 97, 632, 633, 634, 635, 636, 637, 638, 639, 640, 641, 642, 643, 644, 645, 646, 647, 648, 649, 650, 651, 652, 653, 654, 655, 656, 657, 658, 659, 660, 661, 662, 663, 664, 665, 666, 667, 668, 669, 670, 671, 672, 673, 674, 675, 676, 677, 678, 679, 680, 681, 682, 683, 684, 685, 686, 687, 688, 689, 690, 691, 692, 693, 694, 695, 696, 697, 698, 699, 700, 701, 702, 703, 704, 705, 706, 707, 708, 709, 710, 711, 712, 713, 714, 715, 716, 717, 718, 719, 720, 721, 722, 723, 724, 725, 726, 727, 728, 729, 730, 731, 732, 733, 734, 735, 736, 737, 738, 739, 740, 741, 742, 743, 744, 745, 746, 747, 748, 749, 750, 751, 752, 753, 754, 755, 756, 757, 758, 759, 760, 761, 762, 763, 19, 764, 765, 766, 767, 768, 769, 770, 771, 772, 773, 774, 775, 776, 777, 778, 779, 780, 781, 782, 783, 784, 785, 786, 787, 788, 789, 790, 791, 792, 793, 21, 20, 964, 965, 966, 967, 968, 969, 970, 971, 972, 973, 974, 975, 976, 977, 978, 979, 980, 981, 993, 994, 995, 996, 997, 998, 999, 1000, 1001, 1002, 1003, 1004, 1005, 1006, 1007, 1008, 1009, 1010, 1011, 1012, 1013, 1014, 1015, 1016, 988, 989, 990, 991, 992, 982, 983, 984, 985, 986, 987] rfl (by decide +kernel)) (goodIn_sub (fun _ h => List.mem_append_left _ (List.mem_append_left _ (List.mem_append_right _ h))) (by decide +kernel))) (goodIn_sub (fun _ h => List.mem_append_left _ (List.mem_append_right _ h)) (by decide +kernel))) (goodIn_sub (fun _ h => List.mem_append_right _ h) (by decide +kernel))
set_option maxRecDepth 20000 in
theorem gL_law_L_call : GoodIn wsL_law (va_wsS RL 187 yL_call wsL_call) := goodIn_app (goodIn_of _ (by decide +kernel)) ggL_law_L_call
set_option maxRecDepth 20000 in
theorem ggL_law_L_refused : GoodIn wsL_law wsL_refused := goodIn_ca (goodIn_ca (goodIn_ca (goodIn_r _ [851, 852, 853, 7, 854, 855, 856, 794, 795, 796, 2, 797, 18, 443, 798, 799, 800, 801, 442, 802, 803, 804, 805, 806, 510, 807, 811, 812, 813, 814, 815, 824, 825, 826, 827, 820, 828, 829, 830, 831, 822, 832, 833, 834, 835, 823, 455, 456, 457, 458, 459, 444, 445, 446, 447, 448, 195, 196, 38, 197, 58, 136, 137, 138, 139, 140, 141, 142, 143, 144, 460, 370, 371, 372, 63, 466, 467, 468, 469, 470, 438, 439, 440, 441, 449, 199, 200, 201, 66, 471, 472, 473, 474, 475, 476, 477, 478, 479, 480, 481, 235, 236, 237, 67, 488, 489, 490, 491, 492, 493, 494, 495, 496, 497, 506, 507, 508, 509, 511, 512, 513, 514, 515, 516, 304, 305, 46, 306, 80, 522, 523, 524, 525, 31, 526, 527, 528, 30, 529, 345, 530, 102, 347, 158, 159, 160, 531, 310, 311, 17, 312, 47, 313, 35, 532, 342, 343, 344, 346, 104, 348, 349, 103, 350, 351, 352, 353, 354, 355, 356, 357, 358, 39, 43, 198, 234, 255, 256, 257, 42, 258, 73, 74, 75, 76, 359, 360, 361, 362, 363, 364, 365, 366, 319, 367, 320, 368, 369, 373, 292, 293, 294, 374, 375, 376, 377, 105, 378, 379, 380, 381, 382, 383, 384, 385, 386, 387, 388, 389, 390, 391, 392, 393, 394, 395, 396, 397, 398, 399, 400, 401, 402, 403, 533, 322, 323, 324, 85, 534, 428, 429, 430, 431, 432, 433, 434, 548, 549, 550, 551, 552, 521, 553, 554, 555, 556, 557, 106, 558, 559, 338, 339, 340, 81, 560, 415, 416, 417, 418, 419, 420, 421, 62, 566, 567, 568, 569, 547, 570, 571, 572, 573, 307, 308, 128, 124, 125, 574, 575, 576, 577, 578, 498, 499, 500, 501, 502, 857, 858, 859, 860, 23, 861, 862, 863, 864, 865, 866, 867, 868, 869, 870, 871, 111, 112, 116, 117, 118, 119, 120, 121, 122, 123, 126, 127, 129, 130, 131, 132, 133, 134, 135, 145, 146, 147, 148, 22, 149, 150, 151, 152, 153, 154, 155, 156, 49, 157, 50, 51, 52, 53, 54, 161, 162, 163, 164, 59, 165, 60, 61, 64, 65, 68, 69, 166, 167, 168, 169, 170, 171, 172, 173, 174, 175, 82, 83, 86, 87, 88, 176, 177, 178, 179, 180, 181, 182, 183, 184, 185, 872, 873, 874, 110, 212, 213, 214, 215, 216, 217, 218, 219, 220, 221, 222, 223, 224, 225, 206, 107, 108, 109, 113, 114, 115, 186, 187, 188, 189, 190, 191, 192, 193, 194, 202, 203, 204, 205, 207, 208, 209, 210, 211, 226, 227, 228, 229, 230, 231, 232, 233, 238, 239, 240, 241, 242, 243, 244, 245, 246, 247, 248, 249, 250, 251, 252, 253, 254, 259, 260, 261, 262, 263, 264, 265, 266, 267, 268, 269, 270, 271, 272, 273, 274, 275, 276, 277, 278, 279, 280, 281, 282, 283, 284, 285, 286, 287, 288, 289, 290, 291, 295, 296, 297, 298, 299, 300, 301, 302, 303, 309, 314, 315, 316, 317, 318, 321, 325, 326, 327, 328, 329, 330, 331, 332, 333, 334, 335, 336, 337, 341, 404, 405, 406, 407, 408, 409, 410, 411, 412, 413, 414, 422, 423, 424, 425, 426, 427, 435, 436, 437, 450, 451, 452, 453, 454, 461, 462, 463, 464, 465, 482, 483, 484, 485, 486, 487, 503, 504, 505, 517, 518, 519, 520, 535, 536, 537, 538, 539, 540, 541, 542, 543, 544, 545, 546, 561, 562, 563, 564, 565, 579, 580, 581, 582, 583, 584, 585, 586, 587, 588, 589, 590, 591, 592, 593, 594, 595, 596, 597, 598, 599, 600, 601, 602, 603, 604, 605, 606, 607, 27, 608, 609, 610, 26, 611, 94, 612, 613, 614, 615, 93, 616, 617, 618, 619, 620, 621, 622, 623, 95, 624, 625, 626, 627, 628, 629, 630, 631, 96, 98, 97, 632, 633, 634, 635, 636, 637, 638, 639, 640, 641, 642, 643, 644, 645, 646, 647, 648, 649, 650, 651, 652, 653, 654, 655, 656, 657, 658, 659, 660, 661, 662, 663, 664, 665, 666, 667, 668, 669, 670, 671, 672, 673, 674, 675, 676, 677, 678, 679, 680, 681, 682, 683, 684, 685, 686, 687, 688, 689, 690, 691, 692, 693, 694, 695, 696, 697, 698, 699, 700, 701, 702, 703, 704, 705, 706, 707, 708, 709, 710, 711, 712, 713, 714, 715, 716, 717, 718, 719, 720, 721, 722, 723, 724, 725, 726, 727, 728, 729, 730, 731, 732, 733, 734, 735, 736, 737, 738, 739, 740, 741, 742, 743, 744, 745, 746, 747, 748, 749, 750, 751, 752, 753, 754, 755, 756, 757, 758, 759, 760, 761, 762, 763, 19, 764, 765, 766, 767, 768, 769, 770, 771, 772, 773, 774, 775, 776, 777, 778, 779, 780, 781, 782, 783, 784, 785, 786, 787, 788, 789, 790, 791, 792, 793, 21, 20, 875, 876, 877, 964, 965, 966, 967, 968, 969, 970, 971, 972, 973, 974, 975, 976, 977, 978, 979, 980, 981, 993, 994, 995, 996, 997, 998, 999, 1000, 1001, 1002, 1003, 1004, 1009, 1010, 1011, 1012, 1013, 1014, 1015, 1016, 988, 989, 990, 991, 992, 1005, 1006, 1007, 1008, 982, 983, 984, 985, 986, 987] rfl (by decide +kernel)) (goodIn_sub (fun _ h => List.mem_append_left _ (List.mem_append_left _ (List.mem_append_right _ h))) (by decide +kernel))) (goodIn_sub (fun _ h => List.mem_append_left _ (List.mem_append_right _ h)) (by decide +kernel))) (goodIn_sub (fun _ h => List.mem_append_right _ h) (by decide +kernel))
set_option maxRecDepth 20000 in
theorem gL_law_L_refused : GoodIn wsL_law (va_wsS RL 218 yL_refused wsL_refused) := goodIn_app (goodIn_of _ (by decide +kernel)) ggL_law_L_refused
set_option maxRecDepth 20000 in
theorem ggL_law_X6_undo : GoodIn wsL_law wsX6_undo := goodIn_ca (goodIn_ca (goodIn_ca (goodIn_r _ [789, 23, 18, 22, 136, 137, 2, 138, 139, 140, 141, 142, 143, 144, 153, 154, 155, 17, 156, 35, 39, 43, 47, 49, 157, 158, 159, 160, 50, 51, 52, 53, 54, 161, 162, 163, 38, 164, 58, 59, 165, 60, 61, 62, 63, 64, 65, 66, 67, 68, 69, 166, 167, 168, 42, 169, 73, 74, 170, 75, 76, 171, 172, 173, 46, 174, 80, 81, 175, 82, 83, 85, 86, 87, 88, 964, 965, 966, 967, 968, 969, 970, 971, 972, 973, 974, 975, 976, 977, 978, 979, 980, 981, 993, 994, 995, 996, 997, 998, 999, 1000, 1001, 1002, 1003, 1004, 1005, 1006, 1007, 1008, 1009, 1010, 1011, 1012, 1013, 1014, 1015, 1016] rfl (by decide +kernel)) (goodIn_sub (fun _ h => List.mem_append_left _ (List.mem_append_left _ (List.mem_append_right _ h))) (by decide +kernel))) (goodIn_sub (fun _ h => List.mem_append_left _ (List.mem_append_right _ h)) (by decide +kernel))) (goodIn_sub (fun _ h => List.mem_append_right _ h) (by decide +kernel))
set_option maxRecDepth 20000 in
theorem gL_law_X6_undo : GoodIn wsL_law (wsV RL 145 RX6 yX6_undo wsX6_undo) := goodIn_app (goodIn_of _ (by decide +kernel)) ggL_law_X6_undo
set_option maxRecDepth 20000 in
theorem ggL_law_X6_restoreSnapshot : GoodIn wsL_law wsX6_restoreSnapshot := goodIn_ca (goodIn_ca (goodIn_ca (goodIn_r _ [793, 21, 18, 20, 443, 136, 137, 2, 138, 139, 140, 141, 142, 143, 144, 145, 146, 147, 148, 23, 22, 149, 150, 151, 152, 153, 154, 155, 17, 156, 35, 39, 43, 47, 49, 157, 158, 159, 160, 50, 51, 52, 53, 54, 161, 162, 163, 38, 164, 58, 59, 165, 60, 61, 62, 63, 64, 65, 66, 67, 68, 69, 166, 167, 168, 42, 169, 73, 74, 170, 75, 76, 171, 172, 173, 46, 174, 80, 81, 175, 82, 83, 85, 86, 87, 88, 964, 965, 966, 967, 968, 969, 970, 971, 972, 973, 974, 975, 976, 977, 978, 979, 980, 981, 993, 994, 995, 996, 997, 998, 999, 1000, 1001, 1002, 1003, 1004, 1005, 1006, 1007, 1008, 1009, 1010, 1011, 1012, 1013, 1014, 1015, 1016] rfl (by decide +kernel)) (goodIn_sub (fun _ h => List.mem_append_left _ (List.mem_append_left _ (List.mem_append_right _ h))) (by decide +kernel))) (goodIn_sub (fun _ h => List.mem_append_left _ (List.mem_append_right _ h)) (by decide +kernel))) (goodIn_sub (fun _ h => List.mem_append_right _ h) (by decide +kernel))
set_option maxRecDepth 20000 in
theorem gL_law_X6_restoreSnapshot : GoodIn wsL_law (wsV RL 148 RX6 yX6_restoreSnapshot wsX6_restoreSnapshot) := goodIn_app (goodIn_of _ (by decide +kernel)) ggL_law_X6_restoreSnapshot
theorem dL_law_0 : decode cL_law 0 = .ok (.invokestatic 330, 3) := by decide +kernel
theorem dL_law_3 : decode cL_law 3 = .ok (.ifCond .eq 9, 3) := by decide +kernel
theorem dL_law_6 : decode cL_law 6 = .ok (.invokestatic 333, 3) := by decide +kernel
theorem dL_law_9 : decode cL_law 9 = .ok (.ifCond .ne 5, 3) := by decide +kernel
theorem dL_law_12 : decode cL_law 12 = .ok (.iconst 0, 1) := by decide +kernel
theorem dL_law_13 : decode cL_law 13 = .ok (.ireturn, 1) := by decide +kernel
theorem dL_law_14 : decode cL_law 14 = .ok (.new 33, 3) := by decide +kernel
theorem dL_law_17 : decode cL_law 17 = .ok (.dup, 1) := by decide +kernel
theorem dL_law_18 : decode cL_law 18 = .ok (.invokespecial 207, 3) := by decide +kernel
theorem dL_law_21 : decode cL_law 21 = .ok (.astore_n 1, 1) := by decide +kernel
theorem dL_law_22 : decode cL_law 22 = .ok (.bipush 64, 2) := by decide +kernel
theorem dL_law_24 : decode cL_law 24 = .ok (.newarray .long, 2) := by decide +kernel
theorem dL_law_26 : decode cL_law 26 = .ok (.astore_n 2, 1) := by decide +kernel
theorem dL_law_27 : decode cL_law 27 = .ok (.iconst 0, 1) := by decide +kernel
theorem dL_law_28 : decode cL_law 28 = .ok (.istore_n 3, 1) := by decide +kernel
theorem dL_law_29 : decode cL_law 29 = .ok (.aload_n 1, 1) := by decide +kernel
theorem dL_law_30 : decode cL_law 30 = .ok (.bipush 12, 2) := by decide +kernel
theorem dL_law_32 : decode cL_law 32 = .ok (.sipush 150, 3) := by decide +kernel
theorem dL_law_35 : decode cL_law 35 = .ok (.bipush 10, 2) := by decide +kernel
theorem dL_law_37 : decode cL_law 37 = .ok (.bipush 30, 2) := by decide +kernel
theorem dL_law_39 : decode cL_law 39 = .ok (.bipush 13, 2) := by decide +kernel
theorem dL_law_41 : decode cL_law 41 = .ok (.invokevirtual 32, 3) := by decide +kernel
theorem dL_law_44 : decode cL_law 44 = .ok (.ifCond .ne 52, 3) := by decide +kernel
theorem dL_law_47 : decode cL_law 47 = .ok (.aload_n 1, 1) := by decide +kernel
theorem dL_law_48 : decode cL_law 48 = .ok (.bipush 30, 2) := by decide +kernel
theorem dL_law_50 : decode cL_law 50 = .ok (.sipush 170, 3) := by decide +kernel
theorem dL_law_53 : decode cL_law 53 = .ok (.iconst 0, 1) := by decide +kernel
theorem dL_law_54 : decode cL_law 54 = .ok (.bipush 20, 2) := by decide +kernel
theorem dL_law_56 : decode cL_law 56 = .ok (.iconst 0, 1) := by decide +kernel
theorem dL_law_57 : decode cL_law 57 = .ok (.invokevirtual 32, 3) := by decide +kernel
theorem dL_law_60 : decode cL_law 60 = .ok (.iconst 1, 1) := by decide +kernel
theorem dL_law_61 : decode cL_law 61 = .ok (.if_icmp .ne 35, 3) := by decide +kernel
theorem dL_law_64 : decode cL_law 64 = .ok (.aload_n 1, 1) := by decide +kernel
theorem dL_law_65 : decode cL_law 65 = .ok (.bipush 30, 2) := by decide +kernel
theorem dL_law_67 : decode cL_law 67 = .ok (.iconst 2, 1) := by decide +kernel
theorem dL_law_68 : decode cL_law 68 = .ok (.invokevirtual 53, 3) := by decide +kernel
theorem dL_law_71 : decode cL_law 71 = .ok (.ifCond .ne 25, 3) := by decide +kernel
theorem dL_law_74 : decode cL_law 74 = .ok (.aload_n 1, 1) := by decide +kernel
theorem dL_law_75 : decode cL_law 75 = .ok (.iconst 0, 1) := by decide +kernel
theorem dL_law_76 : decode cL_law 76 = .ok (.iconst 0, 1) := by decide +kernel
theorem dL_law_77 : decode cL_law 77 = .ok (.iconst 2, 1) := by decide +kernel
theorem dL_law_78 : decode cL_law 78 = .ok (.bipush 12, 2) := by decide +kernel
theorem dL_law_80 : decode cL_law 80 = .ok (.bipush 18, 2) := by decide +kernel
theorem dL_law_82 : decode cL_law 82 = .ok (.invokevirtual 57, 3) := by decide +kernel
theorem dL_law_85 : decode cL_law 85 = .ok (.iconst 2, 1) := by decide +kernel
theorem dL_law_86 : decode cL_law 86 = .ok (.if_icmp .ne 10, 3) := by decide +kernel
theorem dL_law_89 : decode cL_law 89 = .ok (.aload_n 1, 1) := by decide +kernel
theorem dL_law_90 : decode cL_law 90 = .ok (.invokevirtual 231, 3) := by decide +kernel
theorem dL_law_93 : decode cL_law 93 = .ok (.ifCond .eq 5, 3) := by decide +kernel
theorem dL_law_96 : decode cL_law 96 = .ok (.iconst 0, 1) := by decide +kernel
theorem dL_law_97 : decode cL_law 97 = .ok (.ireturn, 1) := by decide +kernel
theorem dL_law_98 : decode cL_law 98 = .ok (.aload_n 1, 1) := by decide +kernel
theorem dL_law_99 : decode cL_law 99 = .ok (.invokestatic 193, 3) := by decide +kernel
theorem dL_law_102 : decode cL_law 102 = .ok (.lstore 4, 2) := by decide +kernel
theorem dL_law_104 : decode cL_law 104 = .ok (.iconst 0, 1) := by decide +kernel
theorem dL_law_105 : decode cL_law 105 = .ok (.istore 6, 2) := by decide +kernel
theorem dL_law_107 : decode cL_law 107 = .ok (.iload 6, 2) := by decide +kernel
theorem dL_law_109 : decode cL_law 109 = .ok (.bipush 26, 2) := by decide +kernel
theorem dL_law_111 : decode cL_law 111 = .ok (.if_icmp .ge 336, 3) := by decide +kernel
theorem dL_law_114 : decode cL_law 114 = .ok (.aload_n 0, 1) := by decide +kernel
theorem dL_law_115 : decode cL_law 115 = .ok (.iload 6, 2) := by decide +kernel
theorem dL_law_117 : decode cL_law 117 = .ok (.invokestatic 336, 3) := by decide +kernel
theorem dL_law_120 : decode cL_law 120 = .ok (.istore 7, 2) := by decide +kernel
theorem dL_law_122 : decode cL_law 122 = .ok (.iload 7, 2) := by decide +kernel
theorem dL_law_124 : decode cL_law 124 = .ok (.bipush 22, 2) := by decide +kernel
theorem dL_law_126 : decode cL_law 126 = .ok (.invokestatic 340, 3) := by decide +kernel
theorem dL_law_129 : decode cL_law 129 = .ok (.istore 8, 2) := by decide +kernel
theorem dL_law_131 : decode cL_law 131 = .ok (.aload_n 2, 1) := by decide +kernel
theorem dL_law_132 : decode cL_law 132 = .ok (.iload_n 3, 1) := by decide +kernel
theorem dL_law_133 : decode cL_law 133 = .ok (.aload_n 1, 1) := by decide +kernel
theorem dL_law_134 : decode cL_law 134 = .ok (.invokestatic 193, 3) := by decide +kernel
theorem dL_law_137 : decode cL_law 137 = .ok (.lastore, 1) := by decide +kernel
theorem dL_law_138 : decode cL_law 138 = .ok (.aload_n 1, 1) := by decide +kernel
theorem dL_law_139 : decode cL_law 139 = .ok (.invokevirtual 197, 3) := by decide +kernel
theorem dL_law_142 : decode cL_law 142 = .ok (.istore 9, 2) := by decide +kernel
theorem dL_law_144 : decode cL_law 144 = .ok (.iload 7, 2) := by decide +kernel
theorem dL_law_146 : decode cL_law 146 = .ok (.iconst 5, 1) := by decide +kernel
theorem dL_law_147 : decode cL_law 147 = .ok (.ishr, 1) := by decide +kernel
theorem dL_law_148 : decode cL_law 148 = .ok (.iconst 5, 1) := by decide +kernel
theorem dL_law_149 : decode cL_law 149 = .ok (.invokestatic 340, 3) := by decide +kernel
theorem dL_law_152 : decode cL_law 152 = .ok (.istore 10, 2) := by decide +kernel
theorem dL_law_154 : decode cL_law 154 = .ok (.iload 7, 2) := by decide +kernel
theorem dL_law_156 : decode cL_law 156 = .ok (.bipush 8, 2) := by decide +kernel
theorem dL_law_158 : decode cL_law 158 = .ok (.ishr, 1) := by decide +kernel
theorem dL_law_159 : decode cL_law 159 = .ok (.bipush 12, 2) := by decide +kernel
theorem dL_law_161 : decode cL_law 161 = .ok (.invokestatic 340, 3) := by decide +kernel
theorem dL_law_164 : decode cL_law 164 = .ok (.istore 11, 2) := by decide +kernel
theorem dL_law_166 : decode cL_law 166 = .ok (.iload 8, 2) := by decide +kernel
theorem dL_law_168 : decode cL_law 168 = .ok (.iconst 3, 1) := by decide +kernel
theorem dL_law_169 : decode cL_law 169 = .ok (.if_icmp .ge 32, 3) := by decide +kernel
theorem dL_law_172 : decode cL_law 172 = .ok (.aload_n 1, 1) := by decide +kernel
theorem dL_law_173 : decode cL_law 173 = .ok (.iconst 0, 1) := by decide +kernel
theorem dL_law_174 : decode cL_law 174 = .ok (.bipush 6, 2) := by decide +kernel
theorem dL_law_176 : decode cL_law 176 = .ok (.iload 11, 2) := by decide +kernel
theorem dL_law_178 : decode cL_law 178 = .ok (.iadd, 1) := by decide +kernel
theorem dL_law_179 : decode cL_law 179 = .ok (.sipush 140, 3) := by decide +kernel
theorem dL_law_182 : decode cL_law 182 = .ok (.iload 10, 2) := by decide +kernel
theorem dL_law_184 : decode cL_law 184 = .ok (.iadd, 1) := by decide +kernel
theorem dL_law_185 : decode cL_law 185 = .ok (.iconst 5, 1) := by decide +kernel
theorem dL_law_186 : decode cL_law 186 = .ok (.sipush 128, 3) := by decide +kernel
theorem dL_law_189 : decode cL_law 189 = .ok (.iconst 4, 1) := by decide +kernel
theorem dL_law_190 : decode cL_law 190 = .ok (.iload 11, 2) := by decide +kernel
theorem dL_law_192 : decode cL_law 192 = .ok (.iadd, 1) := by decide +kernel
theorem dL_law_193 : decode cL_law 193 = .ok (.imul, 1) := by decide +kernel
theorem dL_law_194 : decode cL_law 194 = .ok (.iadd, 1) := by decide +kernel
theorem dL_law_195 : decode cL_law 195 = .ok (.invokestatic 187, 3) := by decide +kernel
theorem dL_law_198 : decode cL_law 198 = .ok (.goto 186, 3) := by decide +kernel
theorem dL_law_201 : decode cL_law 201 = .ok (.iload 8, 2) := by decide +kernel
theorem dL_law_203 : decode cL_law 203 = .ok (.iconst 3, 1) := by decide +kernel
theorem dL_law_204 : decode cL_law 204 = .ok (.if_icmp .ne 15, 3) := by decide +kernel
theorem dL_law_207 : decode cL_law 207 = .ok (.aload_n 1, 1) := by decide +kernel
theorem dL_law_208 : decode cL_law 208 = .ok (.iconst 1, 1) := by decide +kernel
theorem dL_law_209 : decode cL_law 209 = .ok (.iload 10, 2) := by decide +kernel
theorem dL_law_211 : decode cL_law 211 = .ok (.iconst 0, 1) := by decide +kernel
theorem dL_law_212 : decode cL_law 212 = .ok (.iconst 0, 1) := by decide +kernel
theorem dL_law_213 : decode cL_law 213 = .ok (.invokestatic 187, 3) := by decide +kernel
theorem dL_law_216 : decode cL_law 216 = .ok (.goto 168, 3) := by decide +kernel
theorem dL_law_219 : decode cL_law 219 = .ok (.iload 8, 2) := by decide +kernel
theorem dL_law_221 : decode cL_law 221 = .ok (.bipush 6, 2) := by decide +kernel
theorem dL_law_223 : decode cL_law 223 = .ok (.if_icmp .ge 26, 3) := by decide +kernel
theorem dL_law_226 : decode cL_law 226 = .ok (.aload_n 1, 1) := by decide +kernel
theorem dL_law_227 : decode cL_law 227 = .ok (.iconst 2, 1) := by decide +kernel
theorem dL_law_228 : decode cL_law 228 = .ok (.iload 10, 2) := by decide +kernel
theorem dL_law_230 : decode cL_law 230 = .ok (.iload 11, 2) := by decide +kernel
theorem dL_law_232 : decode cL_law 232 = .ok (.iconst 3, 1) := by decide +kernel
theorem dL_law_233 : decode cL_law 233 = .ok (.bipush 64, 2) := by decide +kernel
theorem dL_law_235 : decode cL_law 235 = .ok (.iload 11, 2) := by decide +kernel
theorem dL_law_237 : decode cL_law 237 = .ok (.imul, 1) := by decide +kernel
theorem dL_law_238 : decode cL_law 238 = .ok (.iadd, 1) := by decide +kernel
theorem dL_law_239 : decode cL_law 239 = .ok (.ldc_w 343, 3) := by decide +kernel
theorem dL_law_242 : decode cL_law 242 = .ok (.iadd, 1) := by decide +kernel
theorem dL_law_243 : decode cL_law 243 = .ok (.invokestatic 187, 3) := by decide +kernel
theorem dL_law_246 : decode cL_law 246 = .ok (.goto 138, 3) := by decide +kernel
theorem dL_law_249 : decode cL_law 249 = .ok (.iload 8, 2) := by decide +kernel
theorem dL_law_251 : decode cL_law 251 = .ok (.bipush 8, 2) := by decide +kernel
theorem dL_law_253 : decode cL_law 253 = .ok (.if_icmp .ge 18, 3) := by decide +kernel
theorem dL_law_256 : decode cL_law 256 = .ok (.aload_n 1, 1) := by decide +kernel
theorem dL_law_257 : decode cL_law 257 = .ok (.iconst 3, 1) := by decide +kernel
theorem dL_law_258 : decode cL_law 258 = .ok (.iload 10, 2) := by decide +kernel
theorem dL_law_260 : decode cL_law 260 = .ok (.iload 11, 2) := by decide +kernel
theorem dL_law_262 : decode cL_law 262 = .ok (.iconst 2, 1) := by decide +kernel
theorem dL_law_263 : decode cL_law 263 = .ok (.idiv, 1) := by decide +kernel
theorem dL_law_264 : decode cL_law 264 = .ok (.iconst 5, 1) := by decide +kernel
theorem dL_law_265 : decode cL_law 265 = .ok (.invokestatic 187, 3) := by decide +kernel
theorem dL_law_268 : decode cL_law 268 = .ok (.goto 116, 3) := by decide +kernel
theorem dL_law_271 : decode cL_law 271 = .ok (.iload 8, 2) := by decide +kernel
theorem dL_law_273 : decode cL_law 273 = .ok (.bipush 10, 2) := by decide +kernel
theorem dL_law_275 : decode cL_law 275 = .ok (.if_icmp .ge 23, 3) := by decide +kernel
theorem dL_law_278 : decode cL_law 278 = .ok (.aload_n 1, 1) := by decide +kernel
theorem dL_law_279 : decode cL_law 279 = .ok (.iconst 4, 1) := by decide +kernel
theorem dL_law_280 : decode cL_law 280 = .ok (.iload 10, 2) := by decide +kernel
theorem dL_law_282 : decode cL_law 282 = .ok (.bipush 20, 2) := by decide +kernel
theorem dL_law_284 : decode cL_law 284 = .ok (.iload 11, 2) := by decide +kernel
theorem dL_law_286 : decode cL_law 286 = .ok (.iadd, 1) := by decide +kernel
theorem dL_law_287 : decode cL_law 287 = .ok (.bipush 25, 2) := by decide +kernel
theorem dL_law_289 : decode cL_law 289 = .ok (.iload 10, 2) := by decide +kernel
theorem dL_law_291 : decode cL_law 291 = .ok (.iadd, 1) := by decide +kernel
theorem dL_law_292 : decode cL_law 292 = .ok (.invokestatic 187, 3) := by decide +kernel
theorem dL_law_295 : decode cL_law 295 = .ok (.goto 89, 3) := by decide +kernel
theorem dL_law_298 : decode cL_law 298 = .ok (.iload 8, 2) := by decide +kernel
theorem dL_law_300 : decode cL_law 300 = .ok (.bipush 12, 2) := by decide +kernel
theorem dL_law_302 : decode cL_law 302 = .ok (.if_icmp .ge 20, 3) := by decide +kernel
theorem dL_law_305 : decode cL_law 305 = .ok (.aload_n 1, 1) := by decide +kernel
theorem dL_law_306 : decode cL_law 306 = .ok (.iconst 5, 1) := by decide +kernel
theorem dL_law_307 : decode cL_law 307 = .ok (.bipush 20, 2) := by decide +kernel
theorem dL_law_309 : decode cL_law 309 = .ok (.iconst 4, 1) := by decide +kernel
theorem dL_law_310 : decode cL_law 310 = .ok (.iload 11, 2) := by decide +kernel
theorem dL_law_312 : decode cL_law 312 = .ok (.imul, 1) := by decide +kernel
theorem dL_law_313 : decode cL_law 313 = .ok (.iadd, 1) := by decide +kernel
theorem dL_law_314 : decode cL_law 314 = .ok (.iconst 1, 1) := by decide +kernel
theorem dL_law_315 : decode cL_law 315 = .ok (.iconst 0, 1) := by decide +kernel
theorem dL_law_316 : decode cL_law 316 = .ok (.invokestatic 187, 3) := by decide +kernel
theorem dL_law_319 : decode cL_law 319 = .ok (.goto 65, 3) := by decide +kernel
theorem dL_law_322 : decode cL_law 322 = .ok (.iload 8, 2) := by decide +kernel
theorem dL_law_324 : decode cL_law 324 = .ok (.bipush 17, 2) := by decide +kernel
theorem dL_law_326 : decode cL_law 326 = .ok (.if_icmp .ge 29, 3) := by decide +kernel
theorem dL_law_329 : decode cL_law 329 = .ok (.aload_n 1, 1) := by decide +kernel
theorem dL_law_330 : decode cL_law 330 = .ok (.bipush 6, 2) := by decide +kernel
theorem dL_law_332 : decode cL_law 332 = .ok (.iload 10, 2) := by decide +kernel
theorem dL_law_334 : decode cL_law 334 = .ok (.iload 11, 2) := by decide +kernel
theorem dL_law_336 : decode cL_law 336 = .ok (.iconst 3, 1) := by decide +kernel
theorem dL_law_337 : decode cL_law 337 = .ok (.idiv, 1) := by decide +kernel
theorem dL_law_338 : decode cL_law 338 = .ok (.iconst 2, 1) := by decide +kernel
theorem dL_law_339 : decode cL_law 339 = .ok (.bipush 8, 2) := by decide +kernel
theorem dL_law_341 : decode cL_law 341 = .ok (.iload 11, 2) := by decide +kernel
theorem dL_law_343 : decode cL_law 343 = .ok (.imul, 1) := by decide +kernel
theorem dL_law_344 : decode cL_law 344 = .ok (.iadd, 1) := by decide +kernel
theorem dL_law_345 : decode cL_law 345 = .ok (.sipush 6144, 3) := by decide +kernel
theorem dL_law_348 : decode cL_law 348 = .ok (.iadd, 1) := by decide +kernel
theorem dL_law_349 : decode cL_law 349 = .ok (.invokestatic 187, 3) := by decide +kernel
theorem dL_law_352 : decode cL_law 352 = .ok (.goto 32, 3) := by decide +kernel
theorem dL_law_355 : decode cL_law 355 = .ok (.iload 8, 2) := by decide +kernel
theorem dL_law_357 : decode cL_law 357 = .ok (.bipush 20, 2) := by decide +kernel
theorem dL_law_359 : decode cL_law 359 = .ok (.if_icmp .ge 16, 3) := by decide +kernel
theorem dL_law_362 : decode cL_law 362 = .ok (.aload_n 1, 1) := by decide +kernel
theorem dL_law_363 : decode cL_law 363 = .ok (.bipush 7, 2) := by decide +kernel
theorem dL_law_365 : decode cL_law 365 = .ok (.iload 11, 2) := by decide +kernel
theorem dL_law_367 : decode cL_law 367 = .ok (.iconst 0, 1) := by decide +kernel
theorem dL_law_368 : decode cL_law 368 = .ok (.iconst 0, 1) := by decide +kernel
theorem dL_law_369 : decode cL_law 369 = .ok (.invokestatic 187, 3) := by decide +kernel
theorem dL_law_372 : decode cL_law 372 = .ok (.goto 12, 3) := by decide +kernel
theorem dL_law_375 : decode cL_law 375 = .ok (.aload_n 1, 1) := by decide +kernel
theorem dL_law_376 : decode cL_law 376 = .ok (.bipush 34, 2) := by decide +kernel
theorem dL_law_378 : decode cL_law 378 = .ok (.iconst 0, 1) := by decide +kernel
theorem dL_law_379 : decode cL_law 379 = .ok (.iconst 0, 1) := by decide +kernel
theorem dL_law_380 : decode cL_law 380 = .ok (.iconst 0, 1) := by decide +kernel
theorem dL_law_381 : decode cL_law 381 = .ok (.invokestatic 187, 3) := by decide +kernel
theorem dL_law_384 : decode cL_law 384 = .ok (.istore 12, 2) := by decide +kernel
theorem dL_law_386 : decode cL_law 386 = .ok (.iload 12, 2) := by decide +kernel
theorem dL_law_388 : decode cL_law 388 = .ok (.sipush (-1999), 3) := by decide +kernel
theorem dL_law_391 : decode cL_law 391 = .ok (.if_icmp .ge 7, 3) := by decide +kernel
theorem dL_law_394 : decode cL_law 394 = .ok (.iconst 1, 1) := by decide +kernel
theorem dL_law_395 : decode cL_law 395 = .ok (.goto 4, 3) := by decide +kernel
theorem dL_law_398 : decode cL_law 398 = .ok (.iconst 0, 1) := by decide +kernel
theorem dL_law_399 : decode cL_law 399 = .ok (.istore 13, 2) := by decide +kernel
theorem dL_law_401 : decode cL_law 401 = .ok (.iload 13, 2) := by decide +kernel
theorem dL_law_403 : decode cL_law 403 = .ok (.ifCond .eq 25, 3) := by decide +kernel
theorem dL_law_406 : decode cL_law 406 = .ok (.aload_n 1, 1) := by decide +kernel
theorem dL_law_407 : decode cL_law 407 = .ok (.invokevirtual 197, 3) := by decide +kernel
theorem dL_law_410 : decode cL_law 410 = .ok (.iload 9, 2) := by decide +kernel
theorem dL_law_412 : decode cL_law 412 = .ok (.if_icmp .ne 14, 3) := by decide +kernel
theorem dL_law_415 : decode cL_law 415 = .ok (.aload_n 1, 1) := by decide +kernel
theorem dL_law_416 : decode cL_law 416 = .ok (.invokestatic 193, 3) := by decide +kernel
theorem dL_law_419 : decode cL_law 419 = .ok (.aload_n 2, 1) := by decide +kernel
theorem dL_law_420 : decode cL_law 420 = .ok (.iload_n 3, 1) := by decide +kernel
theorem dL_law_421 : decode cL_law 421 = .ok (.laload, 1) := by decide +kernel
theorem dL_law_422 : decode cL_law 422 = .ok (.lcmp, 1) := by decide +kernel
theorem dL_law_423 : decode cL_law 423 = .ok (.ifCond .eq 5, 3) := by decide +kernel
theorem dL_law_426 : decode cL_law 426 = .ok (.iconst 0, 1) := by decide +kernel
theorem dL_law_427 : decode cL_law 427 = .ok (.ireturn, 1) := by decide +kernel
theorem dL_law_428 : decode cL_law 428 = .ok (.iload_n 3, 1) := by decide +kernel
theorem dL_law_429 : decode cL_law 429 = .ok (.iload 13, 2) := by decide +kernel
theorem dL_law_431 : decode cL_law 431 = .ok (.ifCond .eq 7, 3) := by decide +kernel
theorem dL_law_434 : decode cL_law 434 = .ok (.iconst 0, 1) := by decide +kernel
theorem dL_law_435 : decode cL_law 435 = .ok (.goto 4, 3) := by decide +kernel
theorem dL_law_438 : decode cL_law 438 = .ok (.iconst 1, 1) := by decide +kernel
theorem dL_law_439 : decode cL_law 439 = .ok (.iadd, 1) := by decide +kernel
theorem dL_law_440 : decode cL_law 440 = .ok (.istore_n 3, 1) := by decide +kernel
theorem dL_law_441 : decode cL_law 441 = .ok (.iinc 6 1, 3) := by decide +kernel
theorem dL_law_444 : decode cL_law 444 = .ok (.goto (-337), 3) := by decide +kernel
theorem dL_law_447 : decode cL_law 447 = .ok (.aload_n 2, 1) := by decide +kernel
theorem dL_law_448 : decode cL_law 448 = .ok (.iload_n 3, 1) := by decide +kernel
theorem dL_law_449 : decode cL_law 449 = .ok (.aload_n 1, 1) := by decide +kernel
theorem dL_law_450 : decode cL_law 450 = .ok (.invokestatic 193, 3) := by decide +kernel
theorem dL_law_453 : decode cL_law 453 = .ok (.lastore, 1) := by decide +kernel
theorem dL_law_454 : decode cL_law 454 = .ok (.aload_n 1, 1) := by decide +kernel
theorem dL_law_455 : decode cL_law 455 = .ok (.invokestatic 218, 3) := by decide +kernel
theorem dL_law_458 : decode cL_law 458 = .ok (.ifCond .ne 5, 3) := by decide +kernel
theorem dL_law_461 : decode cL_law 461 = .ok (.iconst 0, 1) := by decide +kernel
theorem dL_law_462 : decode cL_law 462 = .ok (.ireturn, 1) := by decide +kernel
theorem dL_law_463 : decode cL_law 463 = .ok (.iconst 0, 1) := by decide +kernel
theorem dL_law_464 : decode cL_law 464 = .ok (.istore 6, 2) := by decide +kernel
theorem dL_law_466 : decode cL_law 466 = .ok (.aload_n 1, 1) := by decide +kernel
theorem dL_law_467 : decode cL_law 467 = .ok (.invokevirtual 197, 3) := by decide +kernel
theorem dL_law_470 : decode cL_law 470 = .ok (.ifCond .le 54, 3) := by decide +kernel
theorem dL_law_473 : decode cL_law 473 = .ok (.iload 6, 2) := by decide +kernel
theorem dL_law_475 : decode cL_law 475 = .ok (.iload_n 3, 1) := by decide +kernel
theorem dL_law_476 : decode cL_law 476 = .ok (.if_icmp .ge 48, 3) := by decide +kernel
theorem dL_law_479 : decode cL_law 479 = .ok (.aload_n 1, 1) := by decide +kernel
theorem dL_law_480 : decode cL_law 480 = .ok (.invokevirtual 197, 3) := by decide +kernel
theorem dL_law_483 : decode cL_law 483 = .ok (.istore 7, 2) := by decide +kernel
theorem dL_law_485 : decode cL_law 485 = .ok (.iload 6, 2) := by decide +kernel
theorem dL_law_487 : decode cL_law 487 = .ok (.iconst 3, 1) := by decide +kernel
theorem dL_law_488 : decode cL_law 488 = .ok (.if_icmp .gt 28, 3) := by decide +kernel
theorem dL_law_491 : decode cL_law 491 = .ok (.aload_n 1, 1) := by decide +kernel
theorem dL_law_492 : decode cL_law 492 = .ok (.invokestatic 193, 3) := by decide +kernel
theorem dL_law_495 : decode cL_law 495 = .ok (.aload_n 2, 1) := by decide +kernel
theorem dL_law_496 : decode cL_law 496 = .ok (.iload_n 3, 1) := by decide +kernel
theorem dL_law_497 : decode cL_law 497 = .ok (.iload 6, 2) := by decide +kernel
theorem dL_law_499 : decode cL_law 499 = .ok (.isub, 1) := by decide +kernel
theorem dL_law_500 : decode cL_law 500 = .ok (.laload, 1) := by decide +kernel
theorem dL_law_501 : decode cL_law 501 = .ok (.lcmp, 1) := by decide +kernel
theorem dL_law_502 : decode cL_law 502 = .ok (.ifCond .ne 14, 3) := by decide +kernel
theorem dL_law_505 : decode cL_law 505 = .ok (.aload_n 1, 1) := by decide +kernel
theorem dL_law_506 : decode cL_law 506 = .ok (.invokevirtual 145, 3) := by decide +kernel
theorem dL_law_509 : decode cL_law 509 = .ok (.iload 7, 2) := by decide +kernel
theorem dL_law_511 : decode cL_law 511 = .ok (.iconst 1, 1) := by decide +kernel
theorem dL_law_512 : decode cL_law 512 = .ok (.isub, 1) := by decide +kernel
theorem dL_law_513 : decode cL_law 513 = .ok (.if_icmp .eq 5, 3) := by decide +kernel
theorem dL_law_516 : decode cL_law 516 = .ok (.iconst 0, 1) := by decide +kernel
theorem dL_law_517 : decode cL_law 517 = .ok (.ireturn, 1) := by decide +kernel
theorem dL_law_518 : decode cL_law 518 = .ok (.iinc 6 1, 3) := by decide +kernel
theorem dL_law_521 : decode cL_law 521 = .ok (.goto (-55), 3) := by decide +kernel
theorem dL_law_524 : decode cL_law 524 = .ok (.iconst 0, 1) := by decide +kernel
theorem dL_law_525 : decode cL_law 525 = .ok (.istore 6, 2) := by decide +kernel
theorem dL_law_527 : decode cL_law 527 = .ok (.iload 6, 2) := by decide +kernel
theorem dL_law_529 : decode cL_law 529 = .ok (.iconst 4, 1) := by decide +kernel
theorem dL_law_530 : decode cL_law 530 = .ok (.if_icmp .ge 25, 3) := by decide +kernel
theorem dL_law_533 : decode cL_law 533 = .ok (.aload_n 1, 1) := by decide +kernel
theorem dL_law_534 : decode cL_law 534 = .ok (.invokevirtual 197, 3) := by decide +kernel
theorem dL_law_537 : decode cL_law 537 = .ok (.ifCond .le 18, 3) := by decide +kernel
theorem dL_law_540 : decode cL_law 540 = .ok (.aload_n 1, 1) := by decide +kernel
theorem dL_law_541 : decode cL_law 541 = .ok (.invokevirtual 145, 3) := by decide +kernel
theorem dL_law_544 : decode cL_law 544 = .ok (.ifCond .ge 5, 3) := by decide +kernel
theorem dL_law_547 : decode cL_law 547 = .ok (.iconst 0, 1) := by decide +kernel
theorem dL_law_548 : decode cL_law 548 = .ok (.ireturn, 1) := by decide +kernel
theorem dL_law_549 : decode cL_law 549 = .ok (.iinc 6 1, 3) := by decide +kernel
theorem dL_law_552 : decode cL_law 552 = .ok (.goto (-25), 3) := by decide +kernel
theorem dL_law_555 : decode cL_law 555 = .ok (.aload_n 1, 1) := by decide +kernel
theorem dL_law_556 : decode cL_law 556 = .ok (.bipush 33, 2) := by decide +kernel
theorem dL_law_558 : decode cL_law 558 = .ok (.iconst 0, 1) := by decide +kernel
