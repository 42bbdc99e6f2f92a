theorem dL_law_200 : decode cL_law 200 = .ok (.aload_n 1, 1) := by decide +kernel
theorem dL_law_201 : decode cL_law 201 = .ok (.aload_n 0, 1) := by decide +kernel
theorem dL_law_202 : decode cL_law 202 = .ok (.iload 4, 2) := by decide +kernel
theorem dL_law_204 : decode cL_law 204 = .ok (.iconst 1, 1) := by decide +kernel
theorem dL_law_205 : decode cL_law 205 = .ok (.iadd, 1) := by decide +kernel
theorem dL_law_206 : decode cL_law 206 = .ok (.iaload, 1) := by decide +kernel
theorem dL_law_207 : decode cL_law 207 = .ok (.aload_n 0, 1) := by decide +kernel
theorem dL_law_208 : decode cL_law 208 = .ok (.iload 4, 2) := by decide +kernel
theorem dL_law_210 : decode cL_law 210 = .ok (.iconst 2, 1) := by decide +kernel
theorem dL_law_211 : decode cL_law 211 = .ok (.iadd, 1) := by decide +kernel
theorem dL_law_212 : decode cL_law 212 = .ok (.iaload, 1) := by decide +kernel
theorem dL_law_213 : decode cL_law 213 = .ok (.aload_n 0, 1) := by decide +kernel
theorem dL_law_214 : decode cL_law 214 = .ok (.iload 4, 2) := by decide +kernel
theorem dL_law_216 : decode cL_law 216 = .ok (.iconst 3, 1) := by decide +kernel
theorem dL_law_217 : decode cL_law 217 = .ok (.iadd, 1) := by decide +kernel
theorem dL_law_218 : decode cL_law 218 = .ok (.iaload, 1) := by decide +kernel
theorem dL_law_219 : decode cL_law 219 = .ok (.aload_n 0, 1) := by decide +kernel
theorem dL_law_220 : decode cL_law 220 = .ok (.iload 4, 2) := by decide +kernel
theorem dL_law_222 : decode cL_law 222 = .ok (.iconst 4, 1) := by decide +kernel
theorem dL_law_223 : decode cL_law 223 = .ok (.iadd, 1) := by decide +kernel
theorem dL_law_224 : decode cL_law 224 = .ok (.iaload, 1) := by decide +kernel
theorem dL_law_225 : decode cL_law 225 = .ok (.aload_n 3, 1) := by decide +kernel
theorem dL_law_226 : decode cL_law 226 = .ok (.invokestatic 107, 3) := by decide +kernel
theorem dL_law_229 : decode cL_law 229 = .ok (.istore 5, 2) := by decide +kernel
theorem dL_law_231 : decode cL_law 231 = .ok (.aload_n 2, 1) := by decide +kernel
theorem dL_law_232 : decode cL_law 232 = .ok (.aload_n 0, 1) := by decide +kernel
theorem dL_law_233 : decode cL_law 233 = .ok (.iload 4, 2) := by decide +kernel
theorem dL_law_235 : decode cL_law 235 = .ok (.iconst 1, 1) := by decide +kernel
theorem dL_law_236 : decode cL_law 236 = .ok (.iadd, 1) := by decide +kernel
theorem dL_law_237 : decode cL_law 237 = .ok (.iaload, 1) := by decide +kernel
theorem dL_law_238 : decode cL_law 238 = .ok (.aload_n 0, 1) := by decide +kernel
theorem dL_law_239 : decode cL_law 239 = .ok (.iload 4, 2) := by decide +kernel
theorem dL_law_241 : decode cL_law 241 = .ok (.iconst 2, 1) := by decide +kernel
theorem dL_law_242 : decode cL_law 242 = .ok (.iadd, 1) := by decide +kernel
theorem dL_law_243 : decode cL_law 243 = .ok (.iaload, 1) := by decide +kernel
theorem dL_law_244 : decode cL_law 244 = .ok (.aload_n 0, 1) := by decide +kernel
theorem dL_law_245 : decode cL_law 245 = .ok (.iload 4, 2) := by decide +kernel
theorem dL_law_247 : decode cL_law 247 = .ok (.iconst 3, 1) := by decide +kernel
theorem dL_law_248 : decode cL_law 248 = .ok (.iadd, 1) := by decide +kernel
theorem dL_law_249 : decode cL_law 249 = .ok (.iaload, 1) := by decide +kernel
theorem dL_law_250 : decode cL_law 250 = .ok (.aload_n 0, 1) := by decide +kernel
theorem dL_law_251 : decode cL_law 251 = .ok (.iload 4, 2) := by decide +kernel
theorem dL_law_253 : decode cL_law 253 = .ok (.iconst 4, 1) := by decide +kernel
theorem dL_law_254 : decode cL_law 254 = .ok (.iadd, 1) := by decide +kernel
theorem dL_law_255 : decode cL_law 255 = .ok (.iaload, 1) := by decide +kernel
theorem dL_law_256 : decode cL_law 256 = .ok (.invokevirtual 112, 3) := by decide +kernel
theorem dL_law_259 : decode cL_law 259 = .ok (.istore 6, 2) := by decide +kernel
theorem dL_law_261 : decode cL_law 261 = .ok (.aload_n 2, 1) := by decide +kernel
theorem dL_law_262 : decode cL_law 262 = .ok (.invokevirtual 113, 3) := by decide +kernel
theorem dL_law_265 : decode cL_law 265 = .ok (.iload 5, 2) := by decide +kernel
theorem dL_law_267 : decode cL_law 267 = .ok (.if_icmp .eq 5, 3) := by decide +kernel
theorem dL_law_272 : decode cL_law 272 = .ok (.iload 5, 2) := by decide +kernel
theorem dL_law_274 : decode cL_law 274 = .ok (.ifCond .ne 15, 3) := by decide +kernel
theorem dL_law_277 : decode cL_law 277 = .ok (.aload_n 3, 1) := by decide +kernel
theorem dL_law_278 : decode cL_law 278 = .ok (.iconst 0, 1) := by decide +kernel
theorem dL_law_279 : decode cL_law 279 = .ok (.laload, 1) := by decide +kernel
theorem dL_law_280 : decode cL_law 280 = .ok (.iload 6, 2) := by decide +kernel
theorem dL_law_282 : decode cL_law 282 = .ok (.i2l, 1) := by decide +kernel
theorem dL_law_283 : decode cL_law 283 = .ok (.lcmp, 1) := by decide +kernel
theorem dL_law_284 : decode cL_law 284 = .ok (.ifCond .eq 5, 3) := by decide +kernel
theorem dL_law_289 : decode cL_law 289 = .ok (.goto 2031, 3) := by decide +kernel
theorem dL_law_292 : decode cL_law 292 = .ok (.aload_n 1, 1) := by decide +kernel
theorem dL_law_293 : decode cL_law 293 = .ok (.aload_n 0, 1) := by decide +kernel
theorem dL_law_294 : decode cL_law 294 = .ok (.iload 4, 2) := by decide +kernel
theorem dL_law_296 : decode cL_law 296 = .ok (.iconst 1, 1) := by decide +kernel
theorem dL_law_297 : decode cL_law 297 = .ok (.iadd, 1) := by decide +kernel
theorem dL_law_298 : decode cL_law 298 = .ok (.iaload, 1) := by decide +kernel
theorem dL_law_299 : decode cL_law 299 = .ok (.aload_n 0, 1) := by decide +kernel
theorem dL_law_300 : decode cL_law 300 = .ok (.iload 4, 2) := by decide +kernel
theorem dL_law_302 : decode cL_law 302 = .ok (.iconst 2, 1) := by decide +kernel
theorem dL_law_303 : decode cL_law 303 = .ok (.iadd, 1) := by decide +kernel
theorem dL_law_304 : decode cL_law 304 = .ok (.iaload, 1) := by decide +kernel
theorem dL_law_305 : decode cL_law 305 = .ok (.ifCond .eq 7, 3) := by decide +kernel
theorem dL_law_308 : decode cL_law 308 = .ok (.iconst 1, 1) := by decide +kernel
theorem dL_law_309 : decode cL_law 309 = .ok (.goto 4, 3) := by decide +kernel
theorem dL_law_312 : decode cL_law 312 = .ok (.iconst 0, 1) := by decide +kernel
theorem dL_law_313 : decode cL_law 313 = .ok (.aload_n 3, 1) := by decide +kernel
theorem dL_law_314 : decode cL_law 314 = .ok (.invokestatic 117, 3) := by decide +kernel
theorem dL_law_317 : decode cL_law 317 = .ok (.istore 5, 2) := by decide +kernel
theorem dL_law_319 : decode cL_law 319 = .ok (.aload_n 2, 1) := by decide +kernel
theorem dL_law_320 : decode cL_law 320 = .ok (.aload_n 0, 1) := by decide +kernel
theorem dL_law_321 : decode cL_law 321 = .ok (.iload 4, 2) := by decide +kernel
theorem dL_law_323 : decode cL_law 323 = .ok (.iconst 1, 1) := by decide +kernel
theorem dL_law_324 : decode cL_law 324 = .ok (.iadd, 1) := by decide +kernel
theorem dL_law_325 : decode cL_law 325 = .ok (.iaload, 1) := by decide +kernel
theorem dL_law_326 : decode cL_law 326 = .ok (.aload_n 0, 1) := by decide +kernel
theorem dL_law_327 : decode cL_law 327 = .ok (.iload 4, 2) := by decide +kernel
theorem dL_law_329 : decode cL_law 329 = .ok (.iconst 2, 1) := by decide +kernel
theorem dL_law_330 : decode cL_law 330 = .ok (.iadd, 1) := by decide +kernel
theorem dL_law_331 : decode cL_law 331 = .ok (.iaload, 1) := by decide +kernel
theorem dL_law_332 : decode cL_law 332 = .ok (.ifCond .eq 7, 3) := by decide +kernel
theorem dL_law_335 : decode cL_law 335 = .ok (.iconst 1, 1) := by decide +kernel
theorem dL_law_336 : decode cL_law 336 = .ok (.goto 4, 3) := by decide +kernel
theorem dL_law_339 : decode cL_law 339 = .ok (.iconst 0, 1) := by decide +kernel
theorem dL_law_340 : decode cL_law 340 = .ok (.invokevirtual 120, 3) := by decide +kernel
theorem dL_law_343 : decode cL_law 343 = .ok (.istore 6, 2) := by decide +kernel
theorem dL_law_345 : decode cL_law 345 = .ok (.aload_n 2, 1) := by decide +kernel
theorem dL_law_346 : decode cL_law 346 = .ok (.invokevirtual 113, 3) := by decide +kernel
theorem dL_law_349 : decode cL_law 349 = .ok (.iload 5, 2) := by decide +kernel
theorem dL_law_351 : decode cL_law 351 = .ok (.if_icmp .eq 5, 3) := by decide +kernel
theorem dL_law_356 : decode cL_law 356 = .ok (.iload 5, 2) := by decide +kernel
theorem dL_law_358 : decode cL_law 358 = .ok (.ifCond .ne 22, 3) := by decide +kernel
theorem dL_law_380 : decode cL_law 380 = .ok (.goto 1940, 3) := by decide +kernel
theorem dL_law_383 : decode cL_law 383 = .ok (.aload_n 1, 1) := by decide +kernel
theorem dL_law_384 : decode cL_law 384 = .ok (.aload_n 0, 1) := by decide +kernel
theorem dL_law_385 : decode cL_law 385 = .ok (.iload 4, 2) := by decide +kernel
theorem dL_law_387 : decode cL_law 387 = .ok (.iconst 1, 1) := by decide +kernel
theorem dL_law_388 : decode cL_law 388 = .ok (.iadd, 1) := by decide +kernel
theorem dL_law_389 : decode cL_law 389 = .ok (.iaload, 1) := by decide +kernel
theorem dL_law_390 : decode cL_law 390 = .ok (.aload_n 3, 1) := by decide +kernel
theorem dL_law_391 : decode cL_law 391 = .ok (.invokestatic 121, 3) := by decide +kernel
theorem dL_law_394 : decode cL_law 394 = .ok (.istore 5, 2) := by decide +kernel
theorem dL_law_396 : decode cL_law 396 = .ok (.aload_n 2, 1) := by decide +kernel
theorem dL_law_397 : decode cL_law 397 = .ok (.aload_n 0, 1) := by decide +kernel
theorem dL_law_398 : decode cL_law 398 = .ok (.iload 4, 2) := by decide +kernel
theorem dL_law_400 : decode cL_law 400 = .ok (.iconst 1, 1) := by decide +kernel
theorem dL_law_401 : decode cL_law 401 = .ok (.iadd, 1) := by decide +kernel
theorem dL_law_402 : decode cL_law 402 = .ok (.iaload, 1) := by decide +kernel
theorem dL_law_403 : decode cL_law 403 = .ok (.invokevirtual 124, 3) := by decide +kernel
theorem dL_law_406 : decode cL_law 406 = .ok (.istore 6, 2) := by decide +kernel
theorem dL_law_408 : decode cL_law 408 = .ok (.aload_n 2, 1) := by decide +kernel
theorem dL_law_409 : decode cL_law 409 = .ok (.invokevirtual 113, 3) := by decide +kernel
theorem dL_law_412 : decode cL_law 412 = .ok (.iload 5, 2) := by decide +kernel
theorem dL_law_414 : decode cL_law 414 = .ok (.if_icmp .eq 5, 3) := by decide +kernel
theorem dL_law_419 : decode cL_law 419 = .ok (.iload 5, 2) := by decide +kernel
theorem dL_law_421 : decode cL_law 421 = .ok (.ifCond .ne 15, 3) := by decide +kernel
theorem dL_law_436 : decode cL_law 436 = .ok (.goto 1884, 3) := by decide +kernel
theorem dL_law_439 : decode cL_law 439 = .ok (.aload_n 1, 1) := by decide +kernel
theorem dL_law_440 : decode cL_law 440 = .ok (.aload_n 0, 1) := by decide +kernel
theorem dL_law_441 : decode cL_law 441 = .ok (.iload 4, 2) := by decide +kernel
theorem dL_law_443 : decode cL_law 443 = .ok (.iconst 1, 1) := by decide +kernel
theorem dL_law_444 : decode cL_law 444 = .ok (.iadd, 1) := by decide +kernel
theorem dL_law_445 : decode cL_law 445 = .ok (.iaload, 1) := by decide +kernel
theorem dL_law_446 : decode cL_law 446 = .ok (.aload_n 0, 1) := by decide +kernel
theorem dL_law_447 : decode cL_law 447 = .ok (.iload 4, 2) := by decide +kernel
theorem dL_law_449 : decode cL_law 449 = .ok (.iconst 2, 1) := by decide +kernel
theorem dL_law_450 : decode cL_law 450 = .ok (.iadd, 1) := by decide +kernel
theorem dL_law_451 : decode cL_law 451 = .ok (.iaload, 1) := by decide +kernel
theorem dL_law_452 : decode cL_law 452 = .ok (.aload_n 3, 1) := by decide +kernel
theorem dL_law_453 : decode cL_law 453 = .ok (.invokestatic 125, 3) := by decide +kernel
theorem dL_law_456 : decode cL_law 456 = .ok (.istore 5, 2) := by decide +kernel
theorem dL_law_458 : decode cL_law 458 = .ok (.aload_n 2, 1) := by decide +kernel
theorem dL_law_459 : decode cL_law 459 = .ok (.aload_n 0, 1) := by decide +kernel
theorem dL_law_460 : decode cL_law 460 = .ok (.iload 4, 2) := by decide +kernel
theorem dL_law_462 : decode cL_law 462 = .ok (.iconst 1, 1) := by decide +kernel
theorem dL_law_463 : decode cL_law 463 = .ok (.iadd, 1) := by decide +kernel
theorem dL_law_464 : decode cL_law 464 = .ok (.iaload, 1) := by decide +kernel
theorem dL_law_465 : decode cL_law 465 = .ok (.aload_n 0, 1) := by decide +kernel
theorem dL_law_466 : decode cL_law 466 = .ok (.iload 4, 2) := by decide +kernel
theorem dL_law_468 : decode cL_law 468 = .ok (.iconst 2, 1) := by decide +kernel
theorem dL_law_469 : decode cL_law 469 = .ok (.iadd, 1) := by decide +kernel
theorem dL_law_470 : decode cL_law 470 = .ok (.iaload, 1) := by decide +kernel
theorem dL_law_471 : decode cL_law 471 = .ok (.invokevirtual 128, 3) := by decide +kernel
theorem dL_law_474 : decode cL_law 474 = .ok (.istore 6, 2) := by decide +kernel
theorem dL_law_476 : decode cL_law 476 = .ok (.aload_n 2, 1) := by decide +kernel
theorem dL_law_477 : decode cL_law 477 = .ok (.invokevirtual 113, 3) := by decide +kernel
theorem dL_law_480 : decode cL_law 480 = .ok (.iload 5, 2) := by decide +kernel
theorem dL_law_482 : decode cL_law 482 = .ok (.if_icmp .eq 5, 3) := by decide +kernel
theorem dL_law_487 : decode cL_law 487 = .ok (.iload 5, 2) := by decide +kernel
theorem dL_law_489 : decode cL_law 489 = .ok (.ifCond .ne 15, 3) := by decide +kernel
theorem dL_law_504 : decode cL_law 504 = .ok (.goto 1816, 3) := by decide +kernel
theorem dL_law_507 : decode cL_law 507 = .ok (.aload_n 1, 1) := by decide +kernel
theorem dL_law_508 : decode cL_law 508 = .ok (.aload_n 0, 1) := by decide +kernel
theorem dL_law_509 : decode cL_law 509 = .ok (.iload 4, 2) := by decide +kernel
theorem dL_law_511 : decode cL_law 511 = .ok (.iconst 1, 1) := by decide +kernel
theorem dL_law_512 : decode cL_law 512 = .ok (.iadd, 1) := by decide +kernel
theorem dL_law_513 : decode cL_law 513 = .ok (.iaload, 1) := by decide +kernel
theorem dL_law_514 : decode cL_law 514 = .ok (.aload_n 0, 1) := by decide +kernel
theorem dL_law_515 : decode cL_law 515 = .ok (.iload 4, 2) := by decide +kernel
theorem dL_law_517 : decode cL_law 517 = .ok (.iconst 2, 1) := by decide +kernel
theorem dL_law_518 : decode cL_law 518 = .ok (.iadd, 1) := by decide +kernel
theorem dL_law_519 : decode cL_law 519 = .ok (.iaload, 1) := by decide +kernel
theorem dL_law_520 : decode cL_law 520 = .ok (.ifCond .eq 7, 3) := by decide +kernel
theorem dL_law_523 : decode cL_law 523 = .ok (.iconst 1, 1) := by decide +kernel
theorem dL_law_524 : decode cL_law 524 = .ok (.goto 4, 3) := by decide +kernel
theorem dL_law_527 : decode cL_law 527 = .ok (.iconst 0, 1) := by decide +kernel
theorem dL_law_528 : decode cL_law 528 = .ok (.aload_n 3, 1) := by decide +kernel
theorem dL_law_529 : decode cL_law 529 = .ok (.invokestatic 129, 3) := by decide +kernel
theorem dL_law_532 : decode cL_law 532 = .ok (.istore 5, 2) := by decide +kernel
theorem dL_law_534 : decode cL_law 534 = .ok (.aload_n 2, 1) := by decide +kernel
theorem dL_law_535 : decode cL_law 535 = .ok (.aload_n 0, 1) := by decide +kernel
theorem dL_law_536 : decode cL_law 536 = .ok (.iload 4, 2) := by decide +kernel
theorem dL_law_538 : decode cL_law 538 = .ok (.iconst 1, 1) := by decide +kernel
theorem dL_law_539 : decode cL_law 539 = .ok (.iadd, 1) := by decide +kernel
theorem dL_law_540 : decode cL_law 540 = .ok (.iaload, 1) := by decide +kernel
theorem dL_law_541 : decode cL_law 541 = .ok (.aload_n 0, 1) := by decide +kernel
theorem dL_law_542 : decode cL_law 542 = .ok (.iload 4, 2) := by decide +kernel
theorem dL_law_544 : decode cL_law 544 = .ok (.iconst 2, 1) := by decide +kernel
theorem dL_law_545 : decode cL_law 545 = .ok (.iadd, 1) := by decide +kernel
theorem dL_law_546 : decode cL_law 546 = .ok (.iaload, 1) := by decide +kernel
theorem dL_law_547 : decode cL_law 547 = .ok (.ifCond .eq 7, 3) := by decide +kernel
theorem dL_law_550 : decode cL_law 550 = .ok (.iconst 1, 1) := by decide +kernel
theorem dL_law_551 : decode cL_law 551 = .ok (.goto 4, 3) := by decide +kernel
theorem dL_law_554 : decode cL_law 554 = .ok (.iconst 0, 1) := by decide +kernel
theorem dL_law_555 : decode cL_law 555 = .ok (.invokevirtual 131, 3) := by decide +kernel
theorem dL_law_558 : decode cL_law 558 = .ok (.istore 6, 2) := by decide +kernel
theorem dL_law_560 : decode cL_law 560 = .ok (.aload_n 2, 1) := by decide +kernel
theorem dL_law_561 : decode cL_law 561 = .ok (.invokevirtual 113, 3) := by decide +kernel
theorem dL_law_564 : decode cL_law 564 = .ok (.iload 5, 2) := by decide +kernel
theorem dL_law_566 : decode cL_law 566 = .ok (.if_icmp .eq 5, 3) := by decide +kernel
theorem dL_law_571 : decode cL_law 571 = .ok (.iload 5, 2) := by decide +kernel
theorem dL_law_573 : decode cL_law 573 = .ok (.ifCond .ne 15, 3) := by decide +kernel
theorem dL_law_576 : decode cL_law 576 = .ok (.aload_n 3, 1) := by decide +kernel
theorem dL_law_577 : decode cL_law 577 = .ok (.iconst 0, 1) := by decide +kernel
theorem dL_law_578 : decode cL_law 578 = .ok (.laload, 1) := by decide +kernel
theorem dL_law_579 : decode cL_law 579 = .ok (.iload 6, 2) := by decide +kernel
theorem dL_law_581 : decode cL_law 581 = .ok (.i2l, 1) := by decide +kernel
theorem dL_law_582 : decode cL_law 582 = .ok (.lcmp, 1) := by decide +kernel
theorem dL_law_583 : decode cL_law 583 = .ok (.ifCond .eq 5, 3) := by decide +kernel
theorem dL_law_588 : decode cL_law 588 = .ok (.goto 1732, 3) := by decide +kernel
theorem dL_law_591 : decode cL_law 591 = .ok (.aload_n 1, 1) := by decide +kernel
theorem dL_law_592 : decode cL_law 592 = .ok (.aload_n 0, 1) := by decide +kernel
theorem dL_law_593 : decode cL_law 593 = .ok (.iload 4, 2) := by decide +kernel
theorem dL_law_595 : decode cL_law 595 = .ok (.iconst 1, 1) := by decide +kernel
theorem dL_law_596 : decode cL_law 596 = .ok (.iadd, 1) := by decide +kernel
theorem dL_law_597 : decode cL_law 597 = .ok (.iaload, 1) := by decide +kernel
theorem dL_law_598 : decode cL_law 598 = .ok (.aload_n 3, 1) := by decide +kernel
theorem dL_law_599 : decode cL_law 599 = .ok (.invokestatic 132, 3) := by decide +kernel
theorem dL_law_602 : decode cL_law 602 = .ok (.istore 5, 2) := by decide +kernel
theorem dL_law_604 : decode cL_law 604 = .ok (.aload_n 2, 1) := by decide +kernel
theorem dL_law_605 : decode cL_law 605 = .ok (.aload_n 0, 1) := by decide +kernel
theorem dL_law_606 : decode cL_law 606 = .ok (.iload 4, 2) := by decide +kernel
theorem dL_law_608 : decode cL_law 608 = .ok (.iconst 1, 1) := by decide +kernel
theorem dL_law_609 : decode cL_law 609 = .ok (.iadd, 1) := by decide +kernel
theorem dL_law_610 : decode cL_law 610 = .ok (.iaload, 1) := by decide +kernel
theorem dL_law_611 : decode cL_law 611 = .ok (.invokevirtual 134, 3) := by decide +kernel
theorem dL_law_614 : decode cL_law 614 = .ok (.istore 6, 2) := by decide +kernel
theorem dL_law_616 : decode cL_law 616 = .ok (.aload_n 2, 1) := by decide +kernel
theorem dL_law_617 : decode cL_law 617 = .ok (.invokevirtual 113, 3) := by decide +kernel
theorem dL_law_620 : decode cL_law 620 = .ok (.iload 5, 2) := by decide +kernel
theorem dL_law_622 : decode cL_law 622 = .ok (.if_icmp .eq 5, 3) := by decide +kernel
theorem dL_law_627 : decode cL_law 627 = .ok (.iload 5, 2) := by decide +kernel
theorem dL_law_629 : decode cL_law 629 = .ok (.ifCond .ne 15, 3) := by decide +kernel
theorem dL_law_632 : decode cL_law 632 = .ok (.aload_n 3, 1) := by decide +kernel
theorem dL_law_633 : decode cL_law 633 = .ok (.iconst 0, 1) := by decide +kernel
theorem dL_law_634 : decode cL_law 634 = .ok (.laload, 1) := by decide +kernel
theorem dL_law_635 : decode cL_law 635 = .ok (.iload 6, 2) := by decide +kernel
theorem dL_law_637 : decode cL_law 637 = .ok (.i2l, 1) := by decide +kernel
theorem dL_law_638 : decode cL_law 638 = .ok (.lcmp, 1) := by decide +kernel
theorem dL_law_639 : decode cL_law 639 = .ok (.ifCond .eq 5, 3) := by decide +kernel
theorem dL_law_644 : decode cL_law 644 = .ok (.goto 1676, 3) := by decide +kernel
set_option maxHeartbeats 8000000 in
set_option maxRecDepth 100000 in
theorem arm_0 {p : Program} {l : Launch} {e : Env} {s : State} {m : MethodId} {below : List Frame} {meth : Method} {c : Code} {b : Nat} {xs : Nat → Int32} {D : va_G} {K : Nat → ClassId} {sa : Nat × Nat × Nat} {H : Heap} {locs : List Loc} {L : List Nat} {f : Nat → va_E} {Ψ : Nat → Nat} {x m_ o : Nat} {ls : Array Slot} (hls : l.stackTraces = false) (A : LwC p s m meth c b xs) (B : LwW D K sa s H locs L f Ψ x m_ o) (hl : lv_has ls 7 [(0, .ref b), (1, .ref x), (2, .ref m_), (3, .ref o), (4, .int 0)]) : W p l e room_1 s m #[Value.ref b] below meth c H locs 1258 28357 (lw_Z below #[Value.ref b] s) (F0 m 200 ls []) := by
  obtain ⟨C, hX, hbl, hrt, hlk⟩ := id A
  obtain ⟨w, hT, ⟨hm_x, ht_x⟩, ⟨hm_m, ht_m⟩, ⟨hm_o, ht_o, g0, hf_o⟩, hno_6, hno_7, z4, hno_4⟩ := B
  have hx := C.1
  have hb := C.2.1
  have n0 : (0 : Int32).toInt = 0 := by decide
  have n1 : (1 : Int32).toInt = 1 := by decide
  refine lv_aload_n hx hb dL_law_200 rfl (lv_at hl 1 rfl) ?_
  refine lv_aload_n hx hb dL_law_201 rfl (lv_at hl 0 rfl) ?_
  refine lv_iload hx hb dL_law_202 (lv_at hl 4 rfl) ?_
  refine lv_iconst (v := 1) hx hb dL_law_204 (by decide) ?_
  refine lv_iadd hx hb dL_law_205 ?_
  refine lv_topi (fun y1 ey1 => ?_)
  obtain rfl : y1 = 1 := ey1.trans (by decide)
  refine t_sld hx hb hX hbl w (j := 1) (by decide) (vp_in_iff.mpr ⟨by decide, by decide⟩) dL_law_206 ?_
  refine lv_aload_n hx hb dL_law_207 rfl (lv_at hl 0 rfl) ?_
  refine lv_iload hx hb dL_law_208 (lv_at hl 4 rfl) ?_
  refine lv_iconst (v := 2) hx hb dL_law_210 (by decide) ?_
  refine lv_iadd hx hb dL_law_211 ?_
  refine lv_topi (fun y2 ey2 => ?_)
  obtain rfl : y2 = 2 := ey2.trans (by decide)
  refine t_sld hx hb hX hbl w (j := 2) (by decide) (vp_in_iff.mpr ⟨by decide, by decide⟩) dL_law_212 ?_
  refine lv_aload_n hx hb dL_law_213 rfl (lv_at hl 0 rfl) ?_
  refine lv_iload hx hb dL_law_214 (lv_at hl 4 rfl) ?_
  refine lv_iconst (v := 3) hx hb dL_law_216 (by decide) ?_
  refine lv_iadd hx hb dL_law_217 ?_
  refine lv_topi (fun y3 ey3 => ?_)
  obtain rfl : y3 = 3 := ey3.trans (by decide)
  refine t_sld hx hb hX hbl w (j := 3) (by decide) (vp_in_iff.mpr ⟨by decide, by decide⟩) dL_law_218 ?_
  refine lv_aload_n hx hb dL_law_219 rfl (lv_at hl 0 rfl) ?_
  refine lv_iload hx hb dL_law_220 (lv_at hl 4 rfl) ?_
  refine lv_iconst (v := 4) hx hb dL_law_222 (by decide) ?_
  refine lv_iadd hx hb dL_law_223 ?_
  refine lv_topi (fun y4 ey4 => ?_)
  obtain rfl : y4 = 4 := ey4.trans (by decide)
  refine t_sld hx hb hX hbl w (j := 4) (by decide) (vp_in_iff.mpr ⟨by decide, by decide⟩) dL_law_224 ?_
  refine lv_aload_n hx hb dL_law_225 rfl (lv_at hl 3 rfl) ?_
  refine t_callH (n := 6) C w (c_L_lay l hls D K _ sa _ L _ Ψ (hT.mono (gof_sub rfl)) x hm_x ht_x (xs 1) (xs 2) (xs 3) (xs 4)  o hm_o ht_o g0 hf_o) gw_545 gw_543 gw_544 gw_0 ⟨by decide, by decide, by decide +kernel⟩ rfl rfl ⟨Nat.le_of_ble_eq_true rfl, Nat.le_of_ble_eq_true rfl⟩ rfl hl.1 rfl (Nat.le_of_ble_eq_true rfl) dL_law_226 ⟨Nat.le_of_ble_eq_true rfl, Nat.le_of_ble_eq_true rfl⟩ (fun v u H locs hp w => ?_)
  obtain ⟨r1, Ψ2, L2, f2, g, rfl, rfl, hT2, hE2, ht_o2, hf_o2, hal⟩ := hp
  have hnm : ¬ (fun q9 => q9 = o) m_ := fun e9 => by have e9 : m_ = o := e9; rw [e9, ht_o] at ht_m; exact absurd ht_m (by decide)
  have hsp := hE2.sp hm_m hnm
  have ht_m := hsp.2.1.trans ht_m
  have hm_m := hsp.1
  have hm_o := (hE2.1 o hm_o).1
  have hno_7 := hno_7.call hE2 (by decide) (fun b e9 h9 => by have e9 : b = o := e9; rw [e9, ht_o2] at h9; exact absurd h9 (by decide))
  clear hT hno_6 hno_4 hm_x ht_x hf_o ht_o hnm hsp
  have hT := hT2
  have ht_o := ht_o2
  have hf_o := hf_o2
  clear hT2 ht_o2 hf_o2
  refine lv_istore (lv' := [(5, .int r1), (0, .ref b), (1, .ref x), (2, .ref m_), (3, .ref o), (4, .int 0)]) hx hb dL_law_229 hl (by decide) rfl (fun ls hl => ?_)
  refine lv_aload_n hx hb dL_law_231 rfl (lv_at hl 3 rfl) ?_
  refine lv_aload_n hx hb dL_law_232 rfl (lv_at hl 1 rfl) ?_
  refine lv_iload hx hb dL_law_233 (lv_at hl 5 rfl) ?_
  refine lv_iconst (v := 1) hx hb dL_law_235 (by decide) ?_
  refine lv_iadd hx hb dL_law_236 ?_
  refine lv_topi (fun y5 ey5 => ?_)
  obtain rfl : y5 = 1 := ey5.trans (by decide)
  refine t_sld hx hb hX hbl w (j := 1) (by decide) (vp_in_iff.mpr ⟨by decide, by decide⟩) dL_law_237 ?_
  refine lv_aload_n hx hb dL_law_238 rfl (lv_at hl 1 rfl) ?_
  refine lv_iload hx hb dL_law_239 (lv_at hl 5 rfl) ?_
  refine lv_iconst (v := 2) hx hb dL_law_241 (by decide) ?_
  refine lv_iadd hx hb dL_law_242 ?_
  refine lv_topi (fun y6 ey6 => ?_)
  obtain rfl : y6 = 2 := ey6.trans (by decide)
  refine t_sld hx hb hX hbl w (j := 2) (by decide) (vp_in_iff.mpr ⟨by decide, by decide⟩) dL_law_243 ?_
  refine lv_aload_n hx hb dL_law_244 rfl (lv_at hl 1 rfl) ?_
  refine lv_iload hx hb dL_law_245 (lv_at hl 5 rfl) ?_
  refine lv_iconst (v := 3) hx hb dL_law_247 (by decide) ?_
  refine lv_iadd hx hb dL_law_248 ?_
  refine lv_topi (fun y7 ey7 => ?_)
  obtain rfl : y7 = 3 := ey7.trans (by decide)
  refine t_sld hx hb hX hbl w (j := 3) (by decide) (vp_in_iff.mpr ⟨by decide, by decide⟩) dL_law_249 ?_
  refine lv_aload_n hx hb dL_law_250 rfl (lv_at hl 1 rfl) ?_
  refine lv_iload hx hb dL_law_251 (lv_at hl 5 rfl) ?_
  refine lv_iconst (v := 4) hx hb dL_law_253 (by decide) ?_
  refine lv_iadd hx hb dL_law_254 ?_
  refine lv_topi (fun y8 ey8 => ?_)
  obtain rfl : y8 = 4 := ey8.trans (by decide)
  refine t_sld hx hb hX hbl w (j := 4) (by decide) (vp_in_iff.mpr ⟨by decide, by decide⟩) dL_law_255 ?_
  refine t_callV (n := 4) C w hT hm_m ht_m (by decide) rfl rfl (c_X7_lay l D K _ sa _ L2 _ Ψ2 hT m_ hm_m ht_m (xs 1) (xs 2) (xs 3) (xs 4) (fun b c h1 h2 h3 h4 => (hno_7 b h1 h3).trans (hno_7 c h2 h4).symm)) gw_1464 gw_1461 gw_1462 gw_1463 gw_8 ⟨by decide, by decide, by decide +kernel⟩ rfl rfl ⟨Nat.le_of_ble_eq_true rfl, Nat.le_of_ble_eq_true rfl⟩ rfl hl.1 rfl (Nat.le_of_ble_eq_true rfl) dL_law_256 ⟨Nat.le_of_ble_eq_true rfl, Nat.le_of_ble_eq_true rfl⟩ (fun v u H locs hp w => ?_)
  obtain ⟨r2, th, f3, rfl, rfl, hT3, hR3, hbl2⟩ := hp
  have hf_o := (hR3 o hm_o ht_o).trans hf_o
  clear hT
  have hT := hT3
  clear hT3
  rcases hal with ⟨rfl, v1, hg, ⟨rfl, ha0⟩⟩ | ⟨rfl, ha0⟩ | ⟨rfl, ha0, ha1, ha2⟩
  ·
    rcases hbl2 with ⟨rfl, rfl, hb0⟩ | ⟨rfl, rfl, hb0, hb1, hb2⟩ | ⟨rfl, rfl, hb0⟩
    ·
      exfalso
      omega
    ·
      exfalso
      omega
    ·
      refine lv_istore (lv' := [(6, .int 0), (5, .int 0), (0, .ref b), (1, .ref x), (2, .ref m_), (3, .ref o), (4, .int 0)]) hx hb dL_law_259 hl (by decide) rfl (fun ls hl => ?_)
      refine lv_aload_n hx hb dL_law_261 rfl (lv_at hl 4 rfl) ?_
      refine t_callV (n := 0) C w hT hm_m ht_m (by decide) rfl rfl (c_X7_thrown l D K _ sa _ L2 _ Ψ2 0 hT m_ hm_m ht_m) gw_1332 gw_1329 gw_1330 gw_1331 gw_8 ⟨by decide, by decide, by decide +kernel⟩ rfl rfl ⟨Nat.le_of_ble_eq_true rfl, Nat.le_of_ble_eq_true rfl⟩ rfl hl.1 rfl (Nat.le_of_ble_eq_true rfl) dL_law_262 ⟨Nat.le_of_ble_eq_true rfl, Nat.le_of_ble_eq_true rfl⟩ (fun v u H locs hp w => ?_)
      obtain ⟨rfl, rfl⟩ := hp
      refine lv_iload hx hb dL_law_265 (lv_at hl 1 rfl) ?_
      refine lv_icmp_eq (tgt := 272) hx hb dL_law_267 (by decide) (fun _ => ?_) (fun c0 => absurd c0 (by decide))
      refine lv_iload hx hb dL_law_272 (lv_at hl 1 rfl) ?_
      refine lv_if_ne (tgt := 289) hx hb dL_law_274 (by decide) (fun c0 => absurd c0 (by decide)) (fun _ => ?_)
      refine lv_aload_n hx hb dL_law_277 rfl (lv_at hl 5 rfl) ?_
      refine lv_iconst (v := 0) hx hb dL_law_278 (by decide) ?_
      refine t_laldR C w hm_o hf_o hg dL_law_279 ?_
      refine lv_iload hx hb dL_law_280 (lv_at hl 0 rfl) ?_
      refine lv_i2l (v := (0 : Int32).toInt64) hx hb dL_law_282 rfl ?_
      refine W.lcmp hx hb dL_law_283 ?_
      refine lv_topi (fun y9 ey9 => ?_)
      obtain rfl : y9 = 0 := ey9.trans (lg_cmp_self _)
      refine lv_if_eq (tgt := 289) hx hb dL_law_284 (by decide) (fun _ => ?_) (fun c0 => absurd c0 (by decide))
      refine lv_goto (tgt := 2320) hx hb dL_law_289 (by decide) ?_
      exact law_end A w (Nat.le_of_ble_eq_true rfl) (Nat.le_of_ble_eq_true rfl) (lv_sub hl [6, 2] rfl)
  ·
    rcases hbl2 with ⟨rfl, rfl, hb0⟩ | ⟨rfl, rfl, hb0, hb1, hb2⟩ | ⟨rfl, rfl, hb0⟩
    ·
      refine lv_istore (lv' := [(6, .int 0), (5, .int 1), (0, .ref b), (1, .ref x), (2, .ref m_), (3, .ref o), (4, .int 0)]) hx hb dL_law_259 hl (by decide) rfl (fun ls hl => ?_)
      refine lv_aload_n hx hb dL_law_261 rfl (lv_at hl 4 rfl) ?_
      refine t_callV (n := 0) C w hT hm_m ht_m (by decide) rfl rfl (c_X7_thrown l D K _ sa _ L2 _ Ψ2 1 hT m_ hm_m ht_m) gw_1332 gw_1329 gw_1330 gw_1331 gw_8 ⟨by decide, by decide, by decide +kernel⟩ rfl rfl ⟨Nat.le_of_ble_eq_true rfl, Nat.le_of_ble_eq_true rfl⟩ rfl hl.1 rfl (Nat.le_of_ble_eq_true rfl) dL_law_262 ⟨Nat.le_of_ble_eq_true rfl, Nat.le_of_ble_eq_true rfl⟩ (fun v u H locs hp w => ?_)
      obtain ⟨rfl, rfl⟩ := hp
      refine lv_iload hx hb dL_law_265 (lv_at hl 1 rfl) ?_
      refine lv_icmp_eq (tgt := 272) hx hb dL_law_267 (by decide) (fun _ => ?_) (fun c0 => absurd c0 (by decide))
      refine lv_iload hx hb dL_law_272 (lv_at hl 1 rfl) ?_
      refine lv_if_ne (tgt := 289) hx hb dL_law_274 (by decide) (fun _ => ?_) (fun c0 => absurd c0 (by decide))
      refine lv_goto (tgt := 2320) hx hb dL_law_289 (by decide) ?_
      exact law_end A w (Nat.le_of_ble_eq_true rfl) (Nat.le_of_ble_eq_true rfl) (lv_sub hl [6, 2] rfl)
    ·
      exfalso
      omega
    ·
      exfalso
      omega
  ·
    rcases hbl2 with ⟨rfl, rfl, hb0⟩ | ⟨rfl, rfl, hb0, hb1, hb2⟩ | ⟨rfl, rfl, hb0⟩
    ·
      exfalso
      omega
    ·
      refine lv_istore (lv' := [(6, .int 0), (5, .int 2), (0, .ref b), (1, .ref x), (2, .ref m_), (3, .ref o), (4, .int 0)]) hx hb dL_law_259 hl (by decide) rfl (fun ls hl => ?_)
      refine lv_aload_n hx hb dL_law_261 rfl (lv_at hl 4 rfl) ?_
      refine t_callV (n := 0) C w hT hm_m ht_m (by decide) rfl rfl (c_X7_thrown l D K _ sa _ L2 _ Ψ2 2 hT m_ hm_m ht_m) gw_1332 gw_1329 gw_1330 gw_1331 gw_8 ⟨by decide, by decide, by decide +kernel⟩ rfl rfl ⟨Nat.le_of_ble_eq_true rfl, Nat.le_of_ble_eq_true rfl⟩ rfl hl.1 rfl (Nat.le_of_ble_eq_true rfl) dL_law_262 ⟨Nat.le_of_ble_eq_true rfl, Nat.le_of_ble_eq_true rfl⟩ (fun v u H locs hp w => ?_)
      obtain ⟨rfl, rfl⟩ := hp
      refine lv_iload hx hb dL_law_265 (lv_at hl 1 rfl) ?_
      refine lv_icmp_eq (tgt := 272) hx hb dL_law_267 (by decide) (fun _ => ?_) (fun c0 => absurd c0 (by decide))
      refine lv_iload hx hb dL_law_272 (lv_at hl 1 rfl) ?_
      refine lv_if_ne (tgt := 289) hx hb dL_law_274 (by decide) (fun _ => ?_) (fun c0 => absurd c0 (by decide))
      refine lv_goto (tgt := 2320) hx hb dL_law_289 (by decide) ?_
      exact law_end A w (Nat.le_of_ble_eq_true rfl) (Nat.le_of_ble_eq_true rfl) (lv_sub hl [6, 2] rfl)
    ·
      exfalso
      omega
set_option maxHeartbeats 8000000 in
set_option maxRecDepth 100000 in
theorem arm_1 {p : Program} {l : Launch} {e : Env} {s : State} {m : MethodId} {below : List Frame} {meth : Method} {c : Code} {b : Nat} {xs : Nat → Int32} {D : va_G} {K : Nat → ClassId} {sa : Nat × Nat × Nat} {H : Heap} {locs : List Loc} {L : List Nat} {f : Nat → va_E} {Ψ : Nat → Nat} {x m_ o : Nat} {ls : Array Slot} (hls : l.stackTraces = false) (A : LwC p s m meth c b xs) (B : LwW D K sa s H locs L f Ψ x m_ o) (hl : lv_has ls 7 [(0, .ref b), (1, .ref x), (2, .ref m_), (3, .ref o), (4, .int 0)]) : W p l e room_1 s m #[Value.ref b] below meth c H locs 1258 28357 (lw_Z below #[Value.ref b] s) (F0 m 292 ls []) := by
  obtain ⟨C, hX, hbl, hrt, hlk⟩ := id A
  obtain ⟨w, hT, ⟨hm_x, ht_x⟩, ⟨hm_m, ht_m⟩, ⟨hm_o, ht_o, g0, hf_o⟩, hno_6, hno_7, z4, hno_4⟩ := B
  have hx := C.1
  have hb := C.2.1
  have n0 : (0 : Int32).toInt = 0 := by decide
  have n1 : (1 : Int32).toInt = 1 := by decide
  by_cases hz_2 : (xs 2) = 0
  ·
    refine lv_aload_n hx hb dL_law_292 rfl (lv_at hl 1 rfl) ?_
    refine lv_aload_n hx hb dL_law_293 rfl (lv_at hl 0 rfl) ?_
    refine lv_iload hx hb dL_law_294 (lv_at hl 4 rfl) ?_
    refine lv_iconst (v := 1) hx hb dL_law_296 (by decide) ?_
    refine lv_iadd hx hb dL_law_297 ?_
    refine lv_topi (fun y1 ey1 => ?_)
    obtain rfl : y1 = 1 := ey1.trans (by decide)
    refine t_sld hx hb hX hbl w (j := 1) (by decide) (vp_in_iff.mpr ⟨by decide, by decide⟩) dL_law_298 ?_
    refine lv_aload_n hx hb dL_law_299 rfl (lv_at hl 0 rfl) ?_
    refine lv_iload hx hb dL_law_300 (lv_at hl 4 rfl) ?_
    refine lv_iconst (v := 2) hx hb dL_law_302 (by decide) ?_
    refine lv_iadd hx hb dL_law_303 ?_
    refine lv_topi (fun y2 ey2 => ?_)
    obtain rfl : y2 = 2 := ey2.trans (by decide)
    refine t_sld hx hb hX hbl w (j := 2) (by decide) (vp_in_iff.mpr ⟨by decide, by decide⟩) dL_law_304 ?_
    refine lv_if_eq (tgt := 312) hx hb dL_law_305 (by decide) (fun _ => ?_) (fun c0 => absurd hz_2 c0)
    refine lv_iconst (v := 0) hx hb dL_law_312 (by decide) ?_
    refine lv_aload_n hx hb dL_law_313 rfl (lv_at hl 3 rfl) ?_
    refine t_callH (n := 4) C w (c_L_wire l hls D K _ sa _ L _ Ψ (hT.mono (gof_sub rfl)) x hm_x ht_x (xs 1) 0 (by decide) (by decide)  o hm_o ht_o g0 hf_o) gw_648 gw_646 gw_647 gw_0 ⟨by decide, by decide, by decide +kernel⟩ rfl rfl ⟨Nat.le_of_ble_eq_true rfl, Nat.le_of_ble_eq_true rfl⟩ rfl hl.1 rfl (Nat.le_of_ble_eq_true rfl) dL_law_314 ⟨Nat.le_of_ble_eq_true rfl, Nat.le_of_ble_eq_true rfl⟩ (fun v u H locs hp w => ?_)
    obtain ⟨r1, Ψ2, L2, f2, g, rfl, rfl, hT2, hE2, ht_o2, hf_o2, hal⟩ := hp
    have hnm : ¬ (fun q9 => q9 = o) m_ := fun e9 => by have e9 : m_ = o := e9; rw [e9, ht_o] at ht_m; exact absurd ht_m (by decide)
    have hsp := hE2.sp hm_m hnm
    have ht_m := hsp.2.1.trans ht_m
    have hm_m := hsp.1
    have hm_o := (hE2.1 o hm_o).1
    have hno_7 := hno_7.call hE2 (by decide) (fun b e9 h9 => by have e9 : b = o := e9; rw [e9, ht_o2] at h9; exact absurd h9 (by decide))
    clear hT hno_6 hno_4 hm_x ht_x hf_o ht_o hnm hsp
    have hT := hT2
    have ht_o := ht_o2
    have hf_o := hf_o2
    clear hT2 ht_o2 hf_o2
    refine lv_istore (lv' := [(5, .int r1), (0, .ref b), (1, .ref x), (2, .ref m_), (3, .ref o), (4, .int 0)]) hx hb dL_law_317 hl (by decide) rfl (fun ls hl => ?_)
    refine lv_aload_n hx hb dL_law_319 rfl (lv_at hl 3 rfl) ?_
    refine lv_aload_n hx hb dL_law_320 rfl (lv_at hl 1 rfl) ?_
    refine lv_iload hx hb dL_law_321 (lv_at hl 5 rfl) ?_
    refine lv_iconst (v := 1) hx hb dL_law_323 (by decide) ?_
    refine lv_iadd hx hb dL_law_324 ?_
    refine lv_topi (fun y3 ey3 => ?_)
    obtain rfl : y3 = 1 := ey3.trans (by decide)
    refine t_sld hx hb hX hbl w (j := 1) (by decide) (vp_in_iff.mpr ⟨by decide, by decide⟩) dL_law_325 ?_
    refine lv_aload_n hx hb dL_law_326 rfl (lv_at hl 1 rfl) ?_
    refine lv_iload hx hb dL_law_327 (lv_at hl 5 rfl) ?_
    refine lv_iconst (v := 2) hx hb dL_law_329 (by decide) ?_
    refine lv_iadd hx hb dL_law_330 ?_
    refine lv_topi (fun y4 ey4 => ?_)
    obtain rfl : y4 = 2 := ey4.trans (by decide)
    refine t_sld hx hb hX hbl w (j := 2) (by decide) (vp_in_iff.mpr ⟨by decide, by decide⟩) dL_law_331 ?_
    refine lv_if_eq (tgt := 339) hx hb dL_law_332 (by decide) (fun _ => ?_) (fun c0 => absurd hz_2 c0)
    refine lv_iconst (v := 0) hx hb dL_law_339 (by decide) ?_
    refine t_callV (n := 2) C w hT hm_m ht_m (by decide) rfl rfl (c_X7_wire l D K _ sa _ L2 _ Ψ2 hT m_ hm_m ht_m (xs 1) 0 (by decide) (by decide) (fun b c h1 h2 h3 h4 => (hno_7 b h1 h3).trans (hno_7 c h2 h4).symm)) gw_1475 gw_1472 gw_1473 gw_1474 gw_8 ⟨by decide, by decide, by decide +kernel⟩ rfl rfl ⟨Nat.le_of_ble_eq_true rfl, Nat.le_of_ble_eq_true rfl⟩ rfl hl.1 rfl (Nat.le_of_ble_eq_true rfl) dL_law_340 ⟨Nat.le_of_ble_eq_true rfl, Nat.le_of_ble_eq_true rfl⟩ (fun v u H locs hp w => ?_)
    obtain ⟨r2, th, f3, rfl, rfl, hT3, hR3, hbl2⟩ := hp
    have hf_o := (hR3 o hm_o ht_o).trans hf_o
    clear hT
    have hT := hT3
    clear hT3
    rcases hal with rfl
    obtain ⟨rfl, rfl⟩ := hbl2
    refine lv_istore (lv' := [(6, .int 0), (5, .int 1), (0, .ref b), (1, .ref x), (2, .ref m_), (3, .ref o), (4, .int 0)]) hx hb dL_law_343 hl (by decide) rfl (fun ls hl => ?_)
    refine lv_aload_n hx hb dL_law_345 rfl (lv_at hl 4 rfl) ?_
    refine t_callV (n := 0) C w hT hm_m ht_m (by decide) rfl rfl (c_X7_thrown l D K _ sa _ L2 _ Ψ2 1 hT m_ hm_m ht_m) gw_1332 gw_1329 gw_1330 gw_1331 gw_8 ⟨by decide, by decide, by decide +kernel⟩ rfl rfl ⟨Nat.le_of_ble_eq_true rfl, Nat.le_of_ble_eq_true rfl⟩ rfl hl.1 rfl (Nat.le_of_ble_eq_true rfl) dL_law_346 ⟨Nat.le_of_ble_eq_true rfl, Nat.le_of_ble_eq_true rfl⟩ (fun v u H locs hp w => ?_)
    obtain ⟨rfl, rfl⟩ := hp
    refine lv_iload hx hb dL_law_349 (lv_at hl 1 rfl) ?_
    refine lv_icmp_eq (tgt := 356) hx hb dL_law_351 (by decide) (fun _ => ?_) (fun c0 => absurd c0 (by decide))
    refine lv_iload hx hb dL_law_356 (lv_at hl 1 rfl) ?_
    refine lv_if_ne (tgt := 380) hx hb dL_law_358 (by decide) (fun _ => ?_) (fun c0 => absurd c0 (by decide))
    refine lv_goto (tgt := 2320) hx hb dL_law_380 (by decide) ?_
    exact law_end A w (Nat.le_of_ble_eq_true rfl) (Nat.le_of_ble_eq_true rfl) (lv_sub hl [6, 2] rfl)
  ·
    refine lv_aload_n hx hb dL_law_292 rfl (lv_at hl 1 rfl) ?_
    refine lv_aload_n hx hb dL_law_293 rfl (lv_at hl 0 rfl) ?_
    refine lv_iload hx hb dL_law_294 (lv_at hl 4 rfl) ?_
    refine lv_iconst (v := 1) hx hb dL_law_296 (by decide) ?_
    refine lv_iadd hx hb dL_law_297 ?_
    refine lv_topi (fun y1 ey1 => ?_)
    obtain rfl : y1 = 1 := ey1.trans (by decide)
    refine t_sld hx hb hX hbl w (j := 1) (by decide) (vp_in_iff.mpr ⟨by decide, by decide⟩) dL_law_298 ?_
    refine lv_aload_n hx hb dL_law_299 rfl (lv_at hl 0 rfl) ?_
    refine lv_iload hx hb dL_law_300 (lv_at hl 4 rfl) ?_
    refine lv_iconst (v := 2) hx hb dL_law_302 (by decide) ?_
    refine lv_iadd hx hb dL_law_303 ?_
    refine lv_topi (fun y2 ey2 => ?_)
    obtain rfl : y2 = 2 := ey2.trans (by decide)
    refine t_sld hx hb hX hbl w (j := 2) (by decide) (vp_in_iff.mpr ⟨by decide, by decide⟩) dL_law_304 ?_
    refine lv_if_eq (tgt := 312) hx hb dL_law_305 (by decide) (fun c0 => absurd c0 hz_2) (fun _ => ?_)
    refine lv_iconst (v := 1) hx hb dL_law_308 (by decide) ?_
    refine lv_goto (tgt := 313) hx hb dL_law_309 (by decide) ?_
    refine lv_aload_n hx hb dL_law_313 rfl (lv_at hl 3 rfl) ?_
    refine t_callH (n := 4) C w (c_L_wire l hls D K _ sa _ L _ Ψ (hT.mono (gof_sub rfl)) x hm_x ht_x (xs 1) 1 (by decide) (by decide)  o hm_o ht_o g0 hf_o) gw_648 gw_646 gw_647 gw_0 ⟨by decide, by decide, by decide +kernel⟩ rfl rfl ⟨Nat.le_of_ble_eq_true rfl, Nat.le_of_ble_eq_true rfl⟩ rfl hl.1 rfl (Nat.le_of_ble_eq_true rfl) dL_law_314 ⟨Nat.le_of_ble_eq_true rfl, Nat.le_of_ble_eq_true rfl⟩ (fun v u H locs hp w => ?_)
    obtain ⟨r1, Ψ2, L2, f2, g, rfl, rfl, hT2, hE2, ht_o2, hf_o2, hal⟩ := hp
    have hnm : ¬ (fun q9 => q9 = o) m_ := fun e9 => by have e9 : m_ = o := e9; rw [e9, ht_o] at ht_m; exact absurd ht_m (by decide)
    have hsp := hE2.sp hm_m hnm
    have ht_m := hsp.2.1.trans ht_m
    have hm_m := hsp.1
    have hm_o := (hE2.1 o hm_o).1
    have hno_7 := hno_7.call hE2 (by decide) (fun b e9 h9 => by have e9 : b = o := e9; rw [e9, ht_o2] at h9; exact absurd h9 (by decide))
    clear hT hno_6 hno_4 hm_x ht_x hf_o ht_o hnm hsp
    have hT := hT2
    have ht_o := ht_o2
    have hf_o := hf_o2
    clear hT2 ht_o2 hf_o2
    refine lv_istore (lv' := [(5, .int r1), (0, .ref b), (1, .ref x), (2, .ref m_), (3, .ref o), (4, .int 0)]) hx hb dL_law_317 hl (by decide) rfl (fun ls hl => ?_)
    refine lv_aload_n hx hb dL_law_319 rfl (lv_at hl 3 rfl) ?_
    refine lv_aload_n hx hb dL_law_320 rfl (lv_at hl 1 rfl) ?_
    refine lv_iload hx hb dL_law_321 (lv_at hl 5 rfl) ?_
    refine lv_iconst (v := 1) hx hb dL_law_323 (by decide) ?_
    refine lv_iadd hx hb dL_law_324 ?_
    refine lv_topi (fun y3 ey3 => ?_)
    obtain rfl : y3 = 1 := ey3.trans (by decide)
    refine t_sld hx hb hX hbl w (j := 1) (by decide) (vp_in_iff.mpr ⟨by decide, by decide⟩) dL_law_325 ?_
    refine lv_aload_n hx hb dL_law_326 rfl (lv_at hl 1 rfl) ?_
    refine lv_iload hx hb dL_law_327 (lv_at hl 5 rfl) ?_
    refine lv_iconst (v := 2) hx hb dL_law_329 (by decide) ?_
    refine lv_iadd hx hb dL_law_330 ?_
    refine lv_topi (fun y4 ey4 => ?_)
    obtain rfl : y4 = 2 := ey4.trans (by decide)
    refine t_sld hx hb hX hbl w (j := 2) (by decide) (vp_in_iff.mpr ⟨by decide, by decide⟩) dL_law_331 ?_
    refine lv_if_eq (tgt := 339) hx hb dL_law_332 (by decide) (fun c0 => absurd c0 hz_2) (fun _ => ?_)
    refine lv_iconst (v := 1) hx hb dL_law_335 (by decide) ?_
    refine lv_goto (tgt := 340) hx hb dL_law_336 (by decide) ?_
    refine t_callV (n := 2) C w hT hm_m ht_m (by decide) rfl rfl (c_X7_wire l D K _ sa _ L2 _ Ψ2 hT m_ hm_m ht_m (xs 1) 1 (by decide) (by decide) (fun b c h1 h2 h3 h4 => (hno_7 b h1 h3).trans (hno_7 c h2 h4).symm)) gw_1475 gw_1472 gw_1473 gw_1474 gw_8 ⟨by decide, by decide, by decide +kernel⟩ rfl rfl ⟨Nat.le_of_ble_eq_true rfl, Nat.le_of_ble_eq_true rfl⟩ rfl hl.1 rfl (Nat.le_of_ble_eq_true rfl) dL_law_340 ⟨Nat.le_of_ble_eq_true rfl, Nat.le_of_ble_eq_true rfl⟩ (fun v u H locs hp w => ?_)
    obtain ⟨r2, th, f3, rfl, rfl, hT3, hR3, hbl2⟩ := hp
    have hf_o := (hR3 o hm_o ht_o).trans hf_o
    clear hT
    have hT := hT3
    clear hT3
    rcases hal with rfl
    obtain ⟨rfl, rfl⟩ := hbl2
    refine lv_istore (lv' := [(6, .int 0), (5, .int 1), (0, .ref b), (1, .ref x), (2, .ref m_), (3, .ref o), (4, .int 0)]) hx hb dL_law_343 hl (by decide) rfl (fun ls hl => ?_)
    refine lv_aload_n hx hb dL_law_345 rfl (lv_at hl 4 rfl) ?_
    refine t_callV (n := 0) C w hT hm_m ht_m (by decide) rfl rfl (c_X7_thrown l D K _ sa _ L2 _ Ψ2 1 hT m_ hm_m ht_m) gw_1332 gw_1329 gw_1330 gw_1331 gw_8 ⟨by decide, by decide, by decide +kernel⟩ rfl rfl ⟨Nat.le_of_ble_eq_true rfl, Nat.le_of_ble_eq_true rfl⟩ rfl hl.1 rfl (Nat.le_of_ble_eq_true rfl) dL_law_346 ⟨Nat.le_of_ble_eq_true rfl, Nat.le_of_ble_eq_true rfl⟩ (fun v u H locs hp w => ?_)
    obtain ⟨rfl, rfl⟩ := hp
    refine lv_iload hx hb dL_law_349 (lv_at hl 1 rfl) ?_
    refine lv_icmp_eq (tgt := 356) hx hb dL_law_351 (by decide) (fun _ => ?_) (fun c0 => absurd c0 (by decide))
    refine lv_iload hx hb dL_law_356 (lv_at hl 1 rfl) ?_
    refine lv_if_ne (tgt := 380) hx hb dL_law_358 (by decide) (fun _ => ?_) (fun c0 => absurd c0 (by decide))
    refine lv_goto (tgt := 2320) hx hb dL_law_380 (by decide) ?_
    exact law_end A w (Nat.le_of_ble_eq_true rfl) (Nat.le_of_ble_eq_true rfl) (lv_sub hl [6, 2] rfl)
set_option maxHeartbeats 8000000 in
set_option maxRecDepth 100000 in
theorem arm_2 {p : Program} {l : Launch} {e : Env} {s : State} {m : MethodId} {below : List Frame} {meth : Method} {c : Code} {b : Nat} {xs : Nat → Int32} {D : va_G} {K : Nat → ClassId} {sa : Nat × Nat × Nat} {H : Heap} {locs : List Loc} {L : List Nat} {f : Nat → va_E} {Ψ : Nat → Nat} {x m_ o : Nat} {ls : Array Slot} (hls : l.stackTraces = false) (A : LwC p s m meth c b xs) (B : LwW D K sa s H locs L f Ψ x m_ o) (hl : lv_has ls 7 [(0, .ref b), (1, .ref x), (2, .ref m_), (3, .ref o), (4, .int 0)]) : W p l e room_1 s m #[Value.ref b] below meth c H locs 1258 28357 (lw_Z below #[Value.ref b] s) (F0 m 383 ls []) := by
  obtain ⟨C, hX, hbl, hrt, hlk⟩ := id A
  obtain ⟨w, hT, ⟨hm_x, ht_x⟩, ⟨hm_m, ht_m⟩, ⟨hm_o, ht_o, g0, hf_o⟩, hno_6, hno_7, z4, hno_4⟩ := B
  have hx := C.1
  have hb := C.2.1
  have n0 : (0 : Int32).toInt = 0 := by decide
  have n1 : (1 : Int32).toInt = 1 := by decide
  refine lv_aload_n hx hb dL_law_383 rfl (lv_at hl 1 rfl) ?_
  refine lv_aload_n hx hb dL_law_384 rfl (lv_at hl 0 rfl) ?_
  refine lv_iload hx hb dL_law_385 (lv_at hl 4 rfl) ?_
  refine lv_iconst (v := 1) hx hb dL_law_387 (by decide) ?_
  refine lv_iadd hx hb dL_law_388 ?_
  refine lv_topi (fun y1 ey1 => ?_)
  obtain rfl : y1 = 1 := ey1.trans (by decide)
  refine t_sld hx hb hX hbl w (j := 1) (by decide) (vp_in_iff.mpr ⟨by decide, by decide⟩) dL_law_389 ?_
  refine lv_aload_n hx hb dL_law_390 rfl (lv_at hl 3 rfl) ?_
  refine t_callH (n := 3) C w (c_L_key l hls D K _ sa _ L _ Ψ (hT.mono (gof_sub rfl)) x hm_x ht_x (xs 1)  o hm_o ht_o g0 hf_o) gw_675 gw_673 gw_674 gw_0 ⟨by decide, by decide, by decide +kernel⟩ rfl rfl ⟨Nat.le_of_ble_eq_true rfl, Nat.le_of_ble_eq_true rfl⟩ rfl hl.1 rfl (Nat.le_of_ble_eq_true rfl) dL_law_391 ⟨Nat.le_of_ble_eq_true rfl, Nat.le_of_ble_eq_true rfl⟩ (fun v u H locs hp w => ?_)
  obtain ⟨r1, Ψ2, L2, f2, g, rfl, rfl, hT2, hE2, ht_o2, hf_o2, hal⟩ := hp
  have hnm : ¬ (fun q9 => q9 = o) m_ := fun e9 => by have e9 : m_ = o := e9; rw [e9, ht_o] at ht_m; exact absurd ht_m (by decide)
  have hsp := hE2.sp hm_m hnm
  have ht_m := hsp.2.1.trans ht_m
  have hm_m := hsp.1
  have hm_o := (hE2.1 o hm_o).1
  have hno_7 := hno_7.call hE2 (by decide) (fun b e9 h9 => by have e9 : b = o := e9; rw [e9, ht_o2] at h9; exact absurd h9 (by decide))
  clear hT hno_6 hno_4 hm_x ht_x hf_o ht_o hnm hsp
  have hT := hT2
  have ht_o := ht_o2
  have hf_o := hf_o2
  clear hT2 ht_o2 hf_o2
  refine lv_istore (lv' := [(5, .int r1), (0, .ref b), (1, .ref x), (2, .ref m_), (3, .ref o), (4, .int 0)]) hx hb dL_law_394 hl (by decide) rfl (fun ls hl => ?_)
  refine lv_aload_n hx hb dL_law_396 rfl (lv_at hl 3 rfl) ?_
  refine lv_aload_n hx hb dL_law_397 rfl (lv_at hl 1 rfl) ?_
  refine lv_iload hx hb dL_law_398 (lv_at hl 5 rfl) ?_
  refine lv_iconst (v := 1) hx hb dL_law_400 (by decide) ?_
  refine lv_iadd hx hb dL_law_401 ?_
  refine lv_topi (fun y2 ey2 => ?_)
  obtain rfl : y2 = 1 := ey2.trans (by decide)
  refine t_sld hx hb hX hbl w (j := 1) (by decide) (vp_in_iff.mpr ⟨by decide, by decide⟩) dL_law_402 ?_
  refine t_callV (n := 1) C w hT hm_m ht_m (by decide) rfl rfl (c_X7_key l D K _ sa _ L2 _ Ψ2 hT m_ hm_m ht_m (xs 1) (fun b c h1 h2 h3 h4 => (hno_7 b h1 h3).trans (hno_7 c h2 h4).symm)) gw_1479 gw_1476 gw_1477 gw_1478 gw_8 ⟨by decide, by decide, by decide +kernel⟩ rfl rfl ⟨Nat.le_of_ble_eq_true rfl, Nat.le_of_ble_eq_true rfl⟩ rfl hl.1 rfl (Nat.le_of_ble_eq_true rfl) dL_law_403 ⟨Nat.le_of_ble_eq_true rfl, Nat.le_of_ble_eq_true rfl⟩ (fun v u H locs hp w => ?_)
  obtain ⟨r2, th, f3, rfl, rfl, hT3, hR3, hbl2⟩ := hp
  have hf_o := (hR3 o hm_o ht_o).trans hf_o
  clear hT
  have hT := hT3
  clear hT3
  rcases hal with rfl
  obtain ⟨rfl, rfl⟩ := hbl2
  refine lv_istore (lv' := [(6, .int 0), (5, .int 1), (0, .ref b), (1, .ref x), (2, .ref m_), (3, .ref o), (4, .int 0)]) hx hb dL_law_406 hl (by decide) rfl (fun ls hl => ?_)
  refine lv_aload_n hx hb dL_law_408 rfl (lv_at hl 4 rfl) ?_
  refine t_callV (n := 0) C w hT hm_m ht_m (by decide) rfl rfl (c_X7_thrown l D K _ sa _ L2 _ Ψ2 1 hT m_ hm_m ht_m) gw_1332 gw_1329 gw_1330 gw_1331 gw_8 ⟨by decide, by decide, by decide +kernel⟩ rfl rfl ⟨Nat.le_of_ble_eq_true rfl, Nat.le_of_ble_eq_true rfl⟩ rfl hl.1 rfl (Nat.le_of_ble_eq_true rfl) dL_law_409 ⟨Nat.le_of_ble_eq_true rfl, Nat.le_of_ble_eq_true rfl⟩ (fun v u H locs hp w => ?_)
  obtain ⟨rfl, rfl⟩ := hp
  refine lv_iload hx hb dL_law_412 (lv_at hl 1 rfl) ?_
  refine lv_icmp_eq (tgt := 419) hx hb dL_law_414 (by decide) (fun _ => ?_) (fun c0 => absurd c0 (by decide))
  refine lv_iload hx hb dL_law_419 (lv_at hl 1 rfl) ?_
  refine lv_if_ne (tgt := 436) hx hb dL_law_421 (by decide) (fun _ => ?_) (fun c0 => absurd c0 (by decide))
  refine lv_goto (tgt := 2320) hx hb dL_law_436 (by decide) ?_
  exact law_end A w (Nat.le_of_ble_eq_true rfl) (Nat.le_of_ble_eq_true rfl) (lv_sub hl [6, 2] rfl)
set_option maxHeartbeats 8000000 in
set_option maxRecDepth 100000 in
theorem arm_3 {p : Program} {l : Launch} {e : Env} {s : State} {m : MethodId} {below : List Frame} {meth : Method} {c : Code} {b : Nat} {xs : Nat → Int32} {D : va_G} {K : Nat → ClassId} {sa : Nat × Nat × Nat} {H : Heap} {locs : List Loc} {L : List Nat} {f : Nat → va_E} {Ψ : Nat → Nat} {x m_ o : Nat} {ls : Array Slot} (hls : l.stackTraces = false) (A : LwC p s m meth c b xs) (B : LwW D K sa s H locs L f Ψ x m_ o) (hl : lv_has ls 7 [(0, .ref b), (1, .ref x), (2, .ref m_), (3, .ref o), (4, .int 0)]) : W p l e room_1 s m #[Value.ref b] below meth c H locs 1258 28357 (lw_Z below #[Value.ref b] s) (F0 m 439 ls []) := by
  obtain ⟨C, hX, hbl, hrt, hlk⟩ := id A
  obtain ⟨w, hT, ⟨hm_x, ht_x⟩, ⟨hm_m, ht_m⟩, ⟨hm_o, ht_o, g0, hf_o⟩, hno_6, hno_7, z4, hno_4⟩ := B
  have hx := C.1
  have hb := C.2.1
  have n0 : (0 : Int32).toInt = 0 := by decide
  have n1 : (1 : Int32).toInt = 1 := by decide
  refine lv_aload_n hx hb dL_law_439 rfl (lv_at hl 1 rfl) ?_
  refine lv_aload_n hx hb dL_law_440 rfl (lv_at hl 0 rfl) ?_
  refine lv_iload hx hb dL_law_441 (lv_at hl 4 rfl) ?_
  refine lv_iconst (v := 1) hx hb dL_law_443 (by decide) ?_
  refine lv_iadd hx hb dL_law_444 ?_
  refine lv_topi (fun y1 ey1 => ?_)
  obtain rfl : y1 = 1 := ey1.trans (by decide)
  refine t_sld hx hb hX hbl w (j := 1) (by decide) (vp_in_iff.mpr ⟨by decide, by decide⟩) dL_law_445 ?_
  refine lv_aload_n hx hb dL_law_446 rfl (lv_at hl 0 rfl) ?_
  refine lv_iload hx hb dL_law_447 (lv_at hl 4 rfl) ?_
  refine lv_iconst (v := 2) hx hb dL_law_449 (by decide) ?_
  refine lv_iadd hx hb dL_law_450 ?_
  refine lv_topi (fun y2 ey2 => ?_)
  obtain rfl : y2 = 2 := ey2.trans (by decide)
  refine t_sld hx hb hX hbl w (j := 2) (by decide) (vp_in_iff.mpr ⟨by decide, by decide⟩) dL_law_451 ?_
  refine lv_aload_n hx hb dL_law_452 rfl (lv_at hl 3 rfl) ?_
  refine t_callH (n := 4) C w (c_L_thing l hls D K _ sa _ L _ Ψ (hT.mono (gof_sub rfl)) x hm_x ht_x (xs 1) (xs 2)  o hm_o ht_o g0 hf_o) gw_690 gw_688 gw_689 gw_0 ⟨by decide, by decide, by decide +kernel⟩ rfl rfl ⟨Nat.le_of_ble_eq_true rfl, Nat.le_of_ble_eq_true rfl⟩ rfl hl.1 rfl (Nat.le_of_ble_eq_true rfl) dL_law_453 ⟨Nat.le_of_ble_eq_true rfl, Nat.le_of_ble_eq_true rfl⟩ (fun v u H locs hp w => ?_)
  obtain ⟨r1, Ψ2, L2, f2, g, rfl, rfl, hT2, hE2, ht_o2, hf_o2, hal⟩ := hp
  have hnm : ¬ (fun q9 => q9 = o) m_ := fun e9 => by have e9 : m_ = o := e9; rw [e9, ht_o] at ht_m; exact absurd ht_m (by decide)
  have hsp := hE2.sp hm_m hnm
  have ht_m := hsp.2.1.trans ht_m
  have hm_m := hsp.1
  have hm_o := (hE2.1 o hm_o).1
  have hno_7 := hno_7.call hE2 (by decide) (fun b e9 h9 => by have e9 : b = o := e9; rw [e9, ht_o2] at h9; exact absurd h9 (by decide))
  clear hT hno_6 hno_4 hm_x ht_x hf_o ht_o hnm hsp
  have hT := hT2
  have ht_o := ht_o2
  have hf_o := hf_o2
  clear hT2 ht_o2 hf_o2
  refine lv_istore (lv' := [(5, .int r1), (0, .ref b), (1, .ref x), (2, .ref m_), (3, .ref o), (4, .int 0)]) hx hb dL_law_456 hl (by decide) rfl (fun ls hl => ?_)
  refine lv_aload_n hx hb dL_law_458 rfl (lv_at hl 3 rfl) ?_
  refine lv_aload_n hx hb dL_law_459 rfl (lv_at hl 1 rfl) ?_
  refine lv_iload hx hb dL_law_460 (lv_at hl 5 rfl) ?_
  refine lv_iconst (v := 1) hx hb dL_law_462 (by decide) ?_
  refine lv_iadd hx hb dL_law_463 ?_
  refine lv_topi (fun y3 ey3 => ?_)
  obtain rfl : y3 = 1 := ey3.trans (by decide)
  refine t_sld hx hb hX hbl w (j := 1) (by decide) (vp_in_iff.mpr ⟨by decide, by decide⟩) dL_law_464 ?_
  refine lv_aload_n hx hb dL_law_465 rfl (lv_at hl 1 rfl) ?_
  refine lv_iload hx hb dL_law_466 (lv_at hl 5 rfl) ?_
  refine lv_iconst (v := 2) hx hb dL_law_468 (by decide) ?_
  refine lv_iadd hx hb dL_law_469 ?_
  refine lv_topi (fun y4 ey4 => ?_)
  obtain rfl : y4 = 2 := ey4.trans (by decide)
  refine t_sld hx hb hX hbl w (j := 2) (by decide) (vp_in_iff.mpr ⟨by decide, by decide⟩) dL_law_470 ?_
  refine t_callV (n := 2) C w hT hm_m ht_m (by decide) rfl rfl (c_X7_thing l D K _ sa _ L2 _ Ψ2 hT m_ hm_m ht_m (xs 1) (xs 2) (fun b c h1 h2 h3 h4 => (hno_7 b h1 h3).trans (hno_7 c h2 h4).symm)) gw_1491 gw_1488 gw_1489 gw_1490 gw_8 ⟨by decide, by decide, by decide +kernel⟩ rfl rfl ⟨Nat.le_of_ble_eq_true rfl, Nat.le_of_ble_eq_true rfl⟩ rfl hl.1 rfl (Nat.le_of_ble_eq_true rfl) dL_law_471 ⟨Nat.le_of_ble_eq_true rfl, Nat.le_of_ble_eq_true rfl⟩ (fun v u H locs hp w => ?_)
  obtain ⟨r2, th, f3, rfl, rfl, hT3, hR3, hbl2⟩ := hp
  have hf_o := (hR3 o hm_o ht_o).trans hf_o
  clear hT
  have hT := hT3
  clear hT3
  rcases hal with rfl
  obtain ⟨rfl, rfl⟩ := hbl2
  refine lv_istore (lv' := [(6, .int 0), (5, .int 1), (0, .ref b), (1, .ref x), (2, .ref m_), (3, .ref o), (4, .int 0)]) hx hb dL_law_474 hl (by decide) rfl (fun ls hl => ?_)
  refine lv_aload_n hx hb dL_law_476 rfl (lv_at hl 4 rfl) ?_
  refine t_callV (n := 0) C w hT hm_m ht_m (by decide) rfl rfl (c_X7_thrown l D K _ sa _ L2 _ Ψ2 1 hT m_ hm_m ht_m) gw_1332 gw_1329 gw_1330 gw_1331 gw_8 ⟨by decide, by decide, by decide +kernel⟩ rfl rfl ⟨Nat.le_of_ble_eq_true rfl, Nat.le_of_ble_eq_true rfl⟩ rfl hl.1 rfl (Nat.le_of_ble_eq_true rfl) dL_law_477 ⟨Nat.le_of_ble_eq_true rfl, Nat.le_of_ble_eq_true rfl⟩ (fun v u H locs hp w => ?_)
  obtain ⟨rfl, rfl⟩ := hp
  refine lv_iload hx hb dL_law_480 (lv_at hl 1 rfl) ?_
  refine lv_icmp_eq (tgt := 487) hx hb dL_law_482 (by decide) (fun _ => ?_) (fun c0 => absurd c0 (by decide))
  refine lv_iload hx hb dL_law_487 (lv_at hl 1 rfl) ?_
  refine lv_if_ne (tgt := 504) hx hb dL_law_489 (by decide) (fun _ => ?_) (fun c0 => absurd c0 (by decide))
  refine lv_goto (tgt := 2320) hx hb dL_law_504 (by decide) ?_
  exact law_end A w (Nat.le_of_ble_eq_true rfl) (Nat.le_of_ble_eq_true rfl) (lv_sub hl [6, 2] rfl)
set_option maxHeartbeats 8000000 in
set_option maxRecDepth 100000 in
theorem arm_4 {p : Program} {l : Launch} {e : Env} {s : State} {m : MethodId} {below : List Frame} {meth : Method} {c : Code} {b : Nat} {xs : Nat → Int32} {D : va_G} {K : Nat → ClassId} {sa : Nat × Nat × Nat} {H : Heap} {locs : List Loc} {L : List Nat} {f : Nat → va_E} {Ψ : Nat → Nat} {x m_ o : Nat} {ls : Array Slot} (hls : l.stackTraces = false) (A : LwC p s m meth c b xs) (B : LwW D K sa s H locs L f Ψ x m_ o) (hl : lv_has ls 7 [(0, .ref b), (1, .ref x), (2, .ref m_), (3, .ref o), (4, .int 0)]) : W p l e room_1 s m #[Value.ref b] below meth c H locs 1258 28357 (lw_Z below #[Value.ref b] s) (F0 m 507 ls []) := by
  obtain ⟨C, hX, hbl, hrt, hlk⟩ := id A
  obtain ⟨w, hT, ⟨hm_x, ht_x⟩, ⟨hm_m, ht_m⟩, ⟨hm_o, ht_o, g0, hf_o⟩, hno_6, hno_7, z4, hno_4⟩ := B
  have hx := C.1
  have hb := C.2.1
  have n0 : (0 : Int32).toInt = 0 := by decide
  have n1 : (1 : Int32).toInt = 1 := by decide
  by_cases hz_2 : (xs 2) = 0
  ·
    refine lv_aload_n hx hb dL_law_507 rfl (lv_at hl 1 rfl) ?_
    refine lv_aload_n hx hb dL_law_508 rfl (lv_at hl 0 rfl) ?_
    refine lv_iload hx hb dL_law_509 (lv_at hl 4 rfl) ?_
    refine lv_iconst (v := 1) hx hb dL_law_511 (by decide) ?_
    refine lv_iadd hx hb dL_law_512 ?_
    refine lv_topi (fun y1 ey1 => ?_)
    obtain rfl : y1 = 1 := ey1.trans (by decide)
    refine t_sld hx hb hX hbl w (j := 1) (by decide) (vp_in_iff.mpr ⟨by decide, by decide⟩) dL_law_513 ?_
    refine lv_aload_n hx hb dL_law_514 rfl (lv_at hl 0 rfl) ?_
    refine lv_iload hx hb dL_law_515 (lv_at hl 4 rfl) ?_
    refine lv_iconst (v := 2) hx hb dL_law_517 (by decide) ?_
    refine lv_iadd hx hb dL_law_518 ?_
    refine lv_topi (fun y2 ey2 => ?_)
    obtain rfl : y2 = 2 := ey2.trans (by decide)
    refine t_sld hx hb hX hbl w (j := 2) (by decide) (vp_in_iff.mpr ⟨by decide, by decide⟩) dL_law_519 ?_
    refine lv_if_eq (tgt := 527) hx hb dL_law_520 (by decide) (fun _ => ?_) (fun c0 => absurd hz_2 c0)
    refine lv_iconst (v := 0) hx hb dL_law_527 (by decide) ?_
    refine lv_aload_n hx hb dL_law_528 rfl (lv_at hl 3 rfl) ?_
    refine t_callH (n := 4) C w (c_L_top l hls D K _ sa _ L _ Ψ (hT.mono (gof_sub rfl)) x hm_x ht_x (xs 1) 0 (by decide) (by decide)  o hm_o ht_o g0 hf_o) gw_698 gw_696 gw_697 gw_0 ⟨by decide, by decide, by decide +kernel⟩ rfl rfl ⟨Nat.le_of_ble_eq_true rfl, Nat.le_of_ble_eq_true rfl⟩ rfl hl.1 rfl (Nat.le_of_ble_eq_true rfl) dL_law_529 ⟨Nat.le_of_ble_eq_true rfl, Nat.le_of_ble_eq_true rfl⟩ (fun v u H locs hp w => ?_)
    obtain ⟨r1, Ψ2, L2, f2, g, rfl, rfl, hT2, hE2, ht_o2, hf_o2, hal⟩ := hp
    have hnm : ¬ (fun q9 => q9 = o) m_ := fun e9 => by have e9 : m_ = o := e9; rw [e9, ht_o] at ht_m; exact absurd ht_m (by decide)
    have hsp := hE2.sp hm_m hnm
    have ht_m := hsp.2.1.trans ht_m
    have hm_m := hsp.1
    have hm_o := (hE2.1 o hm_o).1
    have hno_7 := hno_7.call hE2 (by decide) (fun b e9 h9 => by have e9 : b = o := e9; rw [e9, ht_o2] at h9; exact absurd h9 (by decide))
    clear hT hno_6 hno_4 hm_x ht_x hf_o ht_o hnm hsp
    have hT := hT2
    have ht_o := ht_o2
    have hf_o := hf_o2
    clear hT2 ht_o2 hf_o2
    refine lv_istore (lv' := [(5, .int r1), (0, .ref b), (1, .ref x), (2, .ref m_), (3, .ref o), (4, .int 0)]) hx hb dL_law_532 hl (by decide) rfl (fun ls hl => ?_)
    refine lv_aload_n hx hb dL_law_534 rfl (lv_at hl 3 rfl) ?_
    refine lv_aload_n hx hb dL_law_535 rfl (lv_at hl 1 rfl) ?_
    refine lv_iload hx hb dL_law_536 (lv_at hl 5 rfl) ?_
    refine lv_iconst (v := 1) hx hb dL_law_538 (by decide) ?_
    refine lv_iadd hx hb dL_law_539 ?_
    refine lv_topi (fun y3 ey3 => ?_)
    obtain rfl : y3 = 1 := ey3.trans (by decide)
    refine t_sld hx hb hX hbl w (j := 1) (by decide) (vp_in_iff.mpr ⟨by decide, by decide⟩) dL_law_540 ?_
    refine lv_aload_n hx hb dL_law_541 rfl (lv_at hl 1 rfl) ?_
    refine lv_iload hx hb dL_law_542 (lv_at hl 5 rfl) ?_
    refine lv_iconst (v := 2) hx hb dL_law_544 (by decide) ?_
    refine lv_iadd hx hb dL_law_545 ?_
    refine lv_topi (fun y4 ey4 => ?_)
    obtain rfl : y4 = 2 := ey4.trans (by decide)
    refine t_sld hx hb hX hbl w (j := 2) (by decide) (vp_in_iff.mpr ⟨by decide, by decide⟩) dL_law_546 ?_
    refine lv_if_eq (tgt := 554) hx hb dL_law_547 (by decide) (fun _ => ?_) (fun c0 => absurd hz_2 c0)
    refine lv_iconst (v := 0) hx hb dL_law_554 (by decide) ?_
    refine t_callV (n := 2) C w hT hm_m ht_m (by decide) rfl rfl (c_X7_top l D K _ sa _ L2 _ Ψ2 hT m_ hm_m ht_m (xs 1) 0 (by decide) (by decide) (fun b c h1 h2 h3 h4 => (hno_7 b h1 h3).trans (hno_7 c h2 h4).symm)) gw_1495 gw_1492 gw_1493 gw_1494 gw_8 ⟨by decide, by decide, by decide +kernel⟩ rfl rfl ⟨Nat.le_of_ble_eq_true rfl, Nat.le_of_ble_eq_true rfl⟩ rfl hl.1 rfl (Nat.le_of_ble_eq_true rfl) dL_law_555 ⟨Nat.le_of_ble_eq_true rfl, Nat.le_of_ble_eq_true rfl⟩ (fun v u H locs hp w => ?_)
    obtain ⟨r2, th, f3, rfl, rfl, hT3, hR3, hbl2⟩ := hp
    have hf_o := (hR3 o hm_o ht_o).trans hf_o
    clear hT
    have hT := hT3
    clear hT3
    rcases hal with ⟨rfl, v1, hg, (⟨rfl, ha0, ha1, ha2⟩ | ⟨rfl, ha0, ha1, ha2⟩)⟩ | ⟨rfl, ha0⟩
    ·
      rcases hbl2 with ⟨rfl, rfl, hb0⟩ | ⟨rfl, rfl, hb0, hb1, hb2⟩ | ⟨rfl, rfl, hb0, hb1, hb2⟩
      ·
        exfalso
        omega
      ·
        refine lv_istore (lv' := [(6, .int 0), (5, .int 0), (0, .ref b), (1, .ref x), (2, .ref m_), (3, .ref o), (4, .int 0)]) hx hb dL_law_558 hl (by decide) rfl (fun ls hl => ?_)
        refine lv_aload_n hx hb dL_law_560 rfl (lv_at hl 4 rfl) ?_
        refine t_callV (n := 0) C w hT hm_m ht_m (by decide) rfl rfl (c_X7_thrown l D K _ sa _ L2 _ Ψ2 0 hT m_ hm_m ht_m) gw_1332 gw_1329 gw_1330 gw_1331 gw_8 ⟨by decide, by decide, by decide +kernel⟩ rfl rfl ⟨Nat.le_of_ble_eq_true rfl, Nat.le_of_ble_eq_true rfl⟩ rfl hl.1 rfl (Nat.le_of_ble_eq_true rfl) dL_law_561 ⟨Nat.le_of_ble_eq_true rfl, Nat.le_of_ble_eq_true rfl⟩ (fun v u H locs hp w => ?_)
        obtain ⟨rfl, rfl⟩ := hp
        refine lv_iload hx hb dL_law_564 (lv_at hl 1 rfl) ?_
        refine lv_icmp_eq (tgt := 571) hx hb dL_law_566 (by decide) (fun _ => ?_) (fun c0 => absurd c0 (by decide))
        refine lv_iload hx hb dL_law_571 (lv_at hl 1 rfl) ?_
        refine lv_if_ne (tgt := 588) hx hb dL_law_573 (by decide) (fun c0 => absurd c0 (by decide)) (fun _ => ?_)
        refine lv_aload_n hx hb dL_law_576 rfl (lv_at hl 5 rfl) ?_
        refine lv_iconst (v := 0) hx hb dL_law_577 (by decide) ?_
        refine t_laldR C w hm_o hf_o hg dL_law_578 ?_
        refine lv_iload hx hb dL_law_579 (lv_at hl 0 rfl) ?_
        refine lv_i2l (v := (0 : Int32).toInt64) hx hb dL_law_581 rfl ?_
        refine W.lcmp hx hb dL_law_582 ?_
        refine lv_topi (fun y5 ey5 => ?_)
        obtain rfl : y5 = 0 := ey5.trans (lg_cmp_self _)
        refine lv_if_eq (tgt := 588) hx hb dL_law_583 (by decide) (fun _ => ?_) (fun c0 => absurd c0 (by decide))
        refine lv_goto (tgt := 2320) hx hb dL_law_588 (by decide) ?_
        exact law_end A w (Nat.le_of_ble_eq_true rfl) (Nat.le_of_ble_eq_true rfl) (lv_sub hl [6, 2] rfl)
      ·
        exfalso
        omega
    ·
      rcases hbl2 with ⟨rfl, rfl, hb0⟩ | ⟨rfl, rfl, hb0, hb1, hb2⟩ | ⟨rfl, rfl, hb0, hb1, hb2⟩
      ·
        exfalso
        omega
      ·
        exfalso
        omega
      ·
        refine lv_istore (lv' := [(6, .int (-1)), (5, .int 0), (0, .ref b), (1, .ref x), (2, .ref m_), (3, .ref o), (4, .int 0)]) hx hb dL_law_558 hl (by decide) rfl (fun ls hl => ?_)
        refine lv_aload_n hx hb dL_law_560 rfl (lv_at hl 4 rfl) ?_
        refine t_callV (n := 0) C w hT hm_m ht_m (by decide) rfl rfl (c_X7_thrown l D K _ sa _ L2 _ Ψ2 0 hT m_ hm_m ht_m) gw_1332 gw_1329 gw_1330 gw_1331 gw_8 ⟨by decide, by decide, by decide +kernel⟩ rfl rfl ⟨Nat.le_of_ble_eq_true rfl, Nat.le_of_ble_eq_true rfl⟩ rfl hl.1 rfl (Nat.le_of_ble_eq_true rfl) dL_law_561 ⟨Nat.le_of_ble_eq_true rfl, Nat.le_of_ble_eq_true rfl⟩ (fun v u H locs hp w => ?_)
        obtain ⟨rfl, rfl⟩ := hp
        refine lv_iload hx hb dL_law_564 (lv_at hl 1 rfl) ?_
        refine lv_icmp_eq (tgt := 571) hx hb dL_law_566 (by decide) (fun _ => ?_) (fun c0 => absurd c0 (by decide))
        refine lv_iload hx hb dL_law_571 (lv_at hl 1 rfl) ?_
        refine lv_if_ne (tgt := 588) hx hb dL_law_573 (by decide) (fun c0 => absurd c0 (by decide)) (fun _ => ?_)
        refine lv_aload_n hx hb dL_law_576 rfl (lv_at hl 5 rfl) ?_
        refine lv_iconst (v := 0) hx hb dL_law_577 (by decide) ?_
        refine t_laldR C w hm_o hf_o hg dL_law_578 ?_
        refine lv_iload hx hb dL_law_579 (lv_at hl 0 rfl) ?_
        refine lv_i2l (v := ((-1) : Int32).toInt64) hx hb dL_law_581 rfl ?_
        refine W.lcmp hx hb dL_law_582 ?_
        refine lv_topi (fun y5 ey5 => ?_)
        obtain rfl : y5 = 0 := ey5.trans (lg_cmp_self _)
        refine lv_if_eq (tgt := 588) hx hb dL_law_583 (by decide) (fun _ => ?_) (fun c0 => absurd c0 (by decide))
        refine lv_goto (tgt := 2320) hx hb dL_law_588 (by decide) ?_
        exact law_end A w (Nat.le_of_ble_eq_true rfl) (Nat.le_of_ble_eq_true rfl) (lv_sub hl [6, 2] rfl)
    ·
      rcases hbl2 with ⟨rfl, rfl, hb0⟩ | ⟨rfl, rfl, hb0, hb1, hb2⟩ | ⟨rfl, rfl, hb0, hb1, hb2⟩
      ·
        refine lv_istore (lv' := [(6, .int 0), (5, .int 1), (0, .ref b), (1, .ref x), (2, .ref m_), (3, .ref o), (4, .int 0)]) hx hb dL_law_558 hl (by decide) rfl (fun ls hl => ?_)
        refine lv_aload_n hx hb dL_law_560 rfl (lv_at hl 4 rfl) ?_
        refine t_callV (n := 0) C w hT hm_m ht_m (by decide) rfl rfl (c_X7_thrown l D K _ sa _ L2 _ Ψ2 1 hT m_ hm_m ht_m) gw_1332 gw_1329 gw_1330 gw_1331 gw_8 ⟨by decide, by decide, by decide +kernel⟩ rfl rfl ⟨Nat.le_of_ble_eq_true rfl, Nat.le_of_ble_eq_true rfl⟩ rfl hl.1 rfl (Nat.le_of_ble_eq_true rfl) dL_law_561 ⟨Nat.le_of_ble_eq_true rfl, Nat.le_of_ble_eq_true rfl⟩ (fun v u H locs hp w => ?_)
        obtain ⟨rfl, rfl⟩ := hp
        refine lv_iload hx hb dL_law_564 (lv_at hl 1 rfl) ?_
        refine lv_icmp_eq (tgt := 571) hx hb dL_law_566 (by decide) (fun _ => ?_) (fun c0 => absurd c0 (by decide))
        refine lv_iload hx hb dL_law_571 (lv_at hl 1 rfl) ?_
        refine lv_if_ne (tgt := 588) hx hb dL_law_573 (by decide) (fun _ => ?_) (fun c0 => absurd c0 (by decide))
        refine lv_goto (tgt := 2320) hx hb dL_law_588 (by decide) ?_
        exact law_end A w (Nat.le_of_ble_eq_true rfl) (Nat.le_of_ble_eq_true rfl) (lv_sub hl [6, 2] rfl)
      ·
        exfalso
        omega
      ·
        exfalso
        omega
  ·
    refine lv_aload_n hx hb dL_law_507 rfl (lv_at hl 1 rfl) ?_
    refine lv_aload_n hx hb dL_law_508 rfl (lv_at hl 0 rfl) ?_
    refine lv_iload hx hb dL_law_509 (lv_at hl 4 rfl) ?_
    refine lv_iconst (v := 1) hx hb dL_law_511 (by decide) ?_
    refine lv_iadd hx hb dL_law_512 ?_
    refine lv_topi (fun y1 ey1 => ?_)
    obtain rfl : y1 = 1 := ey1.trans (by decide)
    refine t_sld hx hb hX hbl w (j := 1) (by decide) (vp_in_iff.mpr ⟨by decide, by decide⟩) dL_law_513 ?_
    refine lv_aload_n hx hb dL_law_514 rfl (lv_at hl 0 rfl) ?_
    refine lv_iload hx hb dL_law_515 (lv_at hl 4 rfl) ?_
    refine lv_iconst (v := 2) hx hb dL_law_517 (by decide) ?_
    refine lv_iadd hx hb dL_law_518 ?_
    refine lv_topi (fun y2 ey2 => ?_)
    obtain rfl : y2 = 2 := ey2.trans (by decide)
    refine t_sld hx hb hX hbl w (j := 2) (by decide) (vp_in_iff.mpr ⟨by decide, by decide⟩) dL_law_519 ?_
    refine lv_if_eq (tgt := 527) hx hb dL_law_520 (by decide) (fun c0 => absurd c0 hz_2) (fun _ => ?_)
    refine lv_iconst (v := 1) hx hb dL_law_523 (by decide) ?_
    refine lv_goto (tgt := 528) hx hb dL_law_524 (by decide) ?_
    refine lv_aload_n hx hb dL_law_528 rfl (lv_at hl 3 rfl) ?_
    refine t_callH (n := 4) C w (c_L_top l hls D K _ sa _ L _ Ψ (hT.mono (gof_sub rfl)) x hm_x ht_x (xs 1) 1 (by decide) (by decide)  o hm_o ht_o g0 hf_o) gw_698 gw_696 gw_697 gw_0 ⟨by decide, by decide, by decide +kernel⟩ rfl rfl ⟨Nat.le_of_ble_eq_true rfl, Nat.le_of_ble_eq_true rfl⟩ rfl hl.1 rfl (Nat.le_of_ble_eq_true rfl) dL_law_529 ⟨Nat.le_of_ble_eq_true rfl, Nat.le_of_ble_eq_true rfl⟩ (fun v u H locs hp w => ?_)
    obtain ⟨r1, Ψ2, L2, f2, g, rfl, rfl, hT2, hE2, ht_o2, hf_o2, hal⟩ := hp
    have hnm : ¬ (fun q9 => q9 = o) m_ := fun e9 => by have e9 : m_ = o := e9; rw [e9, ht_o] at ht_m; exact absurd ht_m (by decide)
    have hsp := hE2.sp hm_m hnm
    have ht_m := hsp.2.1.trans ht_m
    have hm_m := hsp.1
    have hm_o := (hE2.1 o hm_o).1
    have hno_7 := hno_7.call hE2 (by decide) (fun b e9 h9 => by have e9 : b = o := e9; rw [e9, ht_o2] at h9; exact absurd h9 (by decide))
    clear hT hno_6 hno_4 hm_x ht_x hf_o ht_o hnm hsp
    have hT := hT2
    have ht_o := ht_o2
    have hf_o := hf_o2
    clear hT2 ht_o2 hf_o2
    refine lv_istore (lv' := [(5, .int r1), (0, .ref b), (1, .ref x), (2, .ref m_), (3, .ref o), (4, .int 0)]) hx hb dL_law_532 hl (by decide) rfl (fun ls hl => ?_)
    refine lv_aload_n hx hb dL_law_534 rfl (lv_at hl 3 rfl) ?_
    refine lv_aload_n hx hb dL_law_535 rfl (lv_at hl 1 rfl) ?_
    refine lv_iload hx hb dL_law_536 (lv_at hl 5 rfl) ?_
    refine lv_iconst (v := 1) hx hb dL_law_538 (by decide) ?_
    refine lv_iadd hx hb dL_law_539 ?_
    refine lv_topi (fun y3 ey3 => ?_)
    obtain rfl : y3 = 1 := ey3.trans (by decide)
    refine t_sld hx hb hX hbl w (j := 1) (by decide) (vp_in_iff.mpr ⟨by decide, by decide⟩) dL_law_540 ?_
    refine lv_aload_n hx hb dL_law_541 rfl (lv_at hl 1 rfl) ?_
    refine lv_iload hx hb dL_law_542 (lv_at hl 5 rfl) ?_
    refine lv_iconst (v := 2) hx hb dL_law_544 (by decide) ?_
    refine lv_iadd hx hb dL_law_545 ?_
    refine lv_topi (fun y4 ey4 => ?_)
    obtain rfl : y4 = 2 := ey4.trans (by decide)
    refine t_sld hx hb hX hbl w (j := 2) (by decide) (vp_in_iff.mpr ⟨by decide, by decide⟩) dL_law_546 ?_
    refine lv_if_eq (tgt := 554) hx hb dL_law_547 (by decide) (fun c0 => absurd c0 hz_2) (fun _ => ?_)
    refine lv_iconst (v := 1) hx hb dL_law_550 (by decide) ?_
    refine lv_goto (tgt := 555) hx hb dL_law_551 (by decide) ?_
    refine t_callV (n := 2) C w hT hm_m ht_m (by decide) rfl rfl (c_X7_top l D K _ sa _ L2 _ Ψ2 hT m_ hm_m ht_m (xs 1) 1 (by decide) (by decide) (fun b c h1 h2 h3 h4 => (hno_7 b h1 h3).trans (hno_7 c h2 h4).symm)) gw_1495 gw_1492 gw_1493 gw_1494 gw_8 ⟨by decide, by decide, by decide +kernel⟩ rfl rfl ⟨Nat.le_of_ble_eq_true rfl, Nat.le_of_ble_eq_true rfl⟩ rfl hl.1 rfl (Nat.le_of_ble_eq_true rfl) dL_law_555 ⟨Nat.le_of_ble_eq_true rfl, Nat.le_of_ble_eq_true rfl⟩ (fun v u H locs hp w => ?_)
    obtain ⟨r2, th, f3, rfl, rfl, hT3, hR3, hbl2⟩ := hp
    have hf_o := (hR3 o hm_o ht_o).trans hf_o
    clear hT
    have hT := hT3
    clear hT3
    rcases hal with ⟨rfl, v1, hg, (⟨rfl, ha0, ha1, ha2⟩ | ⟨rfl, ha0, ha1, ha2⟩)⟩ | ⟨rfl, ha0⟩
    ·
      rcases hbl2 with ⟨rfl, rfl, hb0⟩ | ⟨rfl, rfl, hb0, hb1, hb2⟩ | ⟨rfl, rfl, hb0, hb1, hb2⟩
      ·
        exfalso
        omega
      ·
        refine lv_istore (lv' := [(6, .int 0), (5, .int 0), (0, .ref b), (1, .ref x), (2, .ref m_), (3, .ref o), (4, .int 0)]) hx hb dL_law_558 hl (by decide) rfl (fun ls hl => ?_)
        refine lv_aload_n hx hb dL_law_560 rfl (lv_at hl 4 rfl) ?_
        refine t_callV (n := 0) C w hT hm_m ht_m (by decide) rfl rfl (c_X7_thrown l D K _ sa _ L2 _ Ψ2 0 hT m_ hm_m ht_m) gw_1332 gw_1329 gw_1330 gw_1331 gw_8 ⟨by decide, by decide, by decide +kernel⟩ rfl rfl ⟨Nat.le_of_ble_eq_true rfl, Nat.le_of_ble_eq_true rfl⟩ rfl hl.1 rfl (Nat.le_of_ble_eq_true rfl) dL_law_561 ⟨Nat.le_of_ble_eq_true rfl, Nat.le_of_ble_eq_true rfl⟩ (fun v u H locs hp w => ?_)
        obtain ⟨rfl, rfl⟩ := hp
        refine lv_iload hx hb dL_law_564 (lv_at hl 1 rfl) ?_
        refine lv_icmp_eq (tgt := 571) hx hb dL_law_566 (by decide) (fun _ => ?_) (fun c0 => absurd c0 (by decide))
        refine lv_iload hx hb dL_law_571 (lv_at hl 1 rfl) ?_
        refine lv_if_ne (tgt := 588) hx hb dL_law_573 (by decide) (fun c0 => absurd c0 (by decide)) (fun _ => ?_)
        refine lv_aload_n hx hb dL_law_576 rfl (lv_at hl 5 rfl) ?_
        refine lv_iconst (v := 0) hx hb dL_law_577 (by decide) ?_
        refine t_laldR C w hm_o hf_o hg dL_law_578 ?_
        refine lv_iload hx hb dL_law_579 (lv_at hl 0 rfl) ?_
        refine lv_i2l (v := (0 : Int32).toInt64) hx hb dL_law_581 rfl ?_
        refine W.lcmp hx hb dL_law_582 ?_
        refine lv_topi (fun y5 ey5 => ?_)
        obtain rfl : y5 = 0 := ey5.trans (lg_cmp_self _)
        refine lv_if_eq (tgt := 588) hx hb dL_law_583 (by decide) (fun _ => ?_) (fun c0 => absurd c0 (by decide))
        refine lv_goto (tgt := 2320) hx hb dL_law_588 (by decide) ?_
        exact law_end A w (Nat.le_of_ble_eq_true rfl) (Nat.le_of_ble_eq_true rfl) (lv_sub hl [6, 2] rfl)
      ·
        exfalso
        omega
    ·
      rcases hbl2 with ⟨rfl, rfl, hb0⟩ | ⟨rfl, rfl, hb0, hb1, hb2⟩ | ⟨rfl, rfl, hb0, hb1, hb2⟩
      ·
        exfalso
        omega
      ·
        exfalso
        omega
      ·
        refine lv_istore (lv' := [(6, .int (-1)), (5, .int 0), (0, .ref b), (1, .ref x), (2, .ref m_), (3, .ref o), (4, .int 0)]) hx hb dL_law_558 hl (by decide) rfl (fun ls hl => ?_)
        refine lv_aload_n hx hb dL_law_560 rfl (lv_at hl 4 rfl) ?_
        refine t_callV (n := 0) C w hT hm_m ht_m (by decide) rfl rfl (c_X7_thrown l D K _ sa _ L2 _ Ψ2 0 hT m_ hm_m ht_m) gw_1332 gw_1329 gw_1330 gw_1331 gw_8 ⟨by decide, by decide, by decide +kernel⟩ rfl rfl ⟨Nat.le_of_ble_eq_true rfl, Nat.le_of_ble_eq_true rfl⟩ rfl hl.1 rfl (Nat.le_of_ble_eq_true rfl) dL_law_561 ⟨Nat.le_of_ble_eq_true rfl, Nat.le_of_ble_eq_true rfl⟩ (fun v u H locs hp w => ?_)
        obtain ⟨rfl, rfl⟩ := hp
        refine lv_iload hx hb dL_law_564 (lv_at hl 1 rfl) ?_
        refine lv_icmp_eq (tgt := 571) hx hb dL_law_566 (by decide) (fun _ => ?_) (fun c0 => absurd c0 (by decide))
        refine lv_iload hx hb dL_law_571 (lv_at hl 1 rfl) ?_
        refine lv_if_ne (tgt := 588) hx hb dL_law_573 (by decide) (fun c0 => absurd c0 (by decide)) (fun _ => ?_)
        refine lv_aload_n hx hb dL_law_576 rfl (lv_at hl 5 rfl) ?_
        refine lv_iconst (v := 0) hx hb dL_law_577 (by decide) ?_
        refine t_laldR C w hm_o hf_o hg dL_law_578 ?_
        refine lv_iload hx hb dL_law_579 (lv_at hl 0 rfl) ?_
        refine lv_i2l (v := ((-1) : Int32).toInt64) hx hb dL_law_581 rfl ?_
        refine W.lcmp hx hb dL_law_582 ?_
        refine lv_topi (fun y5 ey5 => ?_)
        obtain rfl : y5 = 0 := ey5.trans (lg_cmp_self _)
        refine lv_if_eq (tgt := 588) hx hb dL_law_583 (by decide) (fun _ => ?_) (fun c0 => absurd c0 (by decide))
        refine lv_goto (tgt := 2320) hx hb dL_law_588 (by decide) ?_
        exact law_end A w (Nat.le_of_ble_eq_true rfl) (Nat.le_of_ble_eq_true rfl) (lv_sub hl [6, 2] rfl)
    ·
      rcases hbl2 with ⟨rfl, rfl, hb0⟩ | ⟨rfl, rfl, hb0, hb1, hb2⟩ | ⟨rfl, rfl, hb0, hb1, hb2⟩
      ·
        refine lv_istore (lv' := [(6, .int 0), (5, .int 1), (0, .ref b), (1, .ref x), (2, .ref m_), (3, .ref o), (4, .int 0)]) hx hb dL_law_558 hl (by decide) rfl (fun ls hl => ?_)
        refine lv_aload_n hx hb dL_law_560 rfl (lv_at hl 4 rfl) ?_
        refine t_callV (n := 0) C w hT hm_m ht_m (by decide) rfl rfl (c_X7_thrown l D K _ sa _ L2 _ Ψ2 1 hT m_ hm_m ht_m) gw_1332 gw_1329 gw_1330 gw_1331 gw_8 ⟨by decide, by decide, by decide +kernel⟩ rfl rfl ⟨Nat.le_of_ble_eq_true rfl, Nat.le_of_ble_eq_true rfl⟩ rfl hl.1 rfl (Nat.le_of_ble_eq_true rfl) dL_law_561 ⟨Nat.le_of_ble_eq_true rfl, Nat.le_of_ble_eq_true rfl⟩ (fun v u H locs hp w => ?_)
        obtain ⟨rfl, rfl⟩ := hp
        refine lv_iload hx hb dL_law_564 (lv_at hl 1 rfl) ?_
        refine lv_icmp_eq (tgt := 571) hx hb dL_law_566 (by decide) (fun _ => ?_) (fun c0 => absurd c0 (by decide))
        refine lv_iload hx hb dL_law_571 (lv_at hl 1 rfl) ?_
        refine lv_if_ne (tgt := 588) hx hb dL_law_573 (by decide) (fun _ => ?_) (fun c0 => absurd c0 (by decide))
        refine lv_goto (tgt := 2320) hx hb dL_law_588 (by decide) ?_
        exact law_end A w (Nat.le_of_ble_eq_true rfl) (Nat.le_of_ble_eq_true rfl) (lv_sub hl [6, 2] rfl)
      ·
        exfalso
        omega
      ·
        exfalso
        omega
set_option maxHeartbeats 8000000 in
set_option maxRecDepth 100000 in
theorem arm_5 {p : Program} {l : Launch} {e : Env} {s : State} {m : MethodId} {below : List Frame} {meth : Method} {c : Code} {b : Nat} {xs : Nat → Int32} {D : va_G} {K : Nat → ClassId} {sa : Nat × Nat × Nat} {H : Heap} {locs : List Loc} {L : List Nat} {f : Nat → va_E} {Ψ : Nat → Nat} {x m_ o : Nat} {ls : Array Slot} (hls : l.stackTraces = false) (A : LwC p s m meth c b xs) (B : LwW D K sa s H locs L f Ψ x m_ o) (hl : lv_has ls 7 [(0, .ref b), (1, .ref x), (2, .ref m_), (3, .ref o), (4, .int 0)]) : W p l e room_1 s m #[Value.ref b] below meth c H locs 1258 28357 (lw_Z below #[Value.ref b] s) (F0 m 591 ls []) := by
  obtain ⟨C, hX, hbl, hrt, hlk⟩ := id A
  obtain ⟨w, hT, ⟨hm_x, ht_x⟩, ⟨hm_m, ht_m⟩, ⟨hm_o, ht_o, g0, hf_o⟩, hno_6, hno_7, z4, hno_4⟩ := B
  have hx := C.1
  have hb := C.2.1
  have n0 : (0 : Int32).toInt = 0 := by decide
  have n1 : (1 : Int32).toInt = 1 := by decide
  refine lv_aload_n hx hb dL_law_591 rfl (lv_at hl 1 rfl) ?_
  refine lv_aload_n hx hb dL_law_592 rfl (lv_at hl 0 rfl) ?_
  refine lv_iload hx hb dL_law_593 (lv_at hl 4 rfl) ?_
  refine lv_iconst (v := 1) hx hb dL_law_595 (by decide) ?_
  refine lv_iadd hx hb dL_law_596 ?_
  refine lv_topi (fun y1 ey1 => ?_)
  obtain rfl : y1 = 1 := ey1.trans (by decide)
  refine t_sld hx hb hX hbl w (j := 1) (by decide) (vp_in_iff.mpr ⟨by decide, by decide⟩) dL_law_597 ?_
  refine lv_aload_n hx hb dL_law_598 rfl (lv_at hl 3 rfl) ?_
  refine t_callH (n := 3) C w (c_L_hole l hls D K _ sa _ L _ Ψ (hT.mono (gof_sub rfl)) x hm_x ht_x (xs 1)  o hm_o ht_o g0 hf_o) gw_705 gw_703 gw_704 gw_0 ⟨by decide, by decide, by decide +kernel⟩ rfl rfl ⟨Nat.le_of_ble_eq_true rfl, Nat.le_of_ble_eq_true rfl⟩ rfl hl.1 rfl (Nat.le_of_ble_eq_true rfl) dL_law_599 ⟨Nat.le_of_ble_eq_true rfl, Nat.le_of_ble_eq_true rfl⟩ (fun v u H locs hp w => ?_)
  obtain ⟨r1, Ψ2, L2, f2, g, rfl, rfl, hT2, hE2, ht_o2, hf_o2, hal⟩ := hp
  have hnm : ¬ (fun q9 => q9 = o) m_ := fun e9 => by have e9 : m_ = o := e9; rw [e9, ht_o] at ht_m; exact absurd ht_m (by decide)
  have hsp := hE2.sp hm_m hnm
  have ht_m := hsp.2.1.trans ht_m
  have hm_m := hsp.1
  have hm_o := (hE2.1 o hm_o).1
  have hno_7 := hno_7.call hE2 (by decide) (fun b e9 h9 => by have e9 : b = o := e9; rw [e9, ht_o2] at h9; exact absurd h9 (by decide))
  clear hT hno_6 hno_4 hm_x ht_x hf_o ht_o hnm hsp
  have hT := hT2
  have ht_o := ht_o2
  have hf_o := hf_o2
  clear hT2 ht_o2 hf_o2
  refine lv_istore (lv' := [(5, .int r1), (0, .ref b), (1, .ref x), (2, .ref m_), (3, .ref o), (4, .int 0)]) hx hb dL_law_602 hl (by decide) rfl (fun ls hl => ?_)
  refine lv_aload_n hx hb dL_law_604 rfl (lv_at hl 3 rfl) ?_
  refine lv_aload_n hx hb dL_law_605 rfl (lv_at hl 1 rfl) ?_
  refine lv_iload hx hb dL_law_606 (lv_at hl 5 rfl) ?_
  refine lv_iconst (v := 1) hx hb dL_law_608 (by decide) ?_
  refine lv_iadd hx hb dL_law_609 ?_
  refine lv_topi (fun y2 ey2 => ?_)
  obtain rfl : y2 = 1 := ey2.trans (by decide)
  refine t_sld hx hb hX hbl w (j := 1) (by decide) (vp_in_iff.mpr ⟨by decide, by decide⟩) dL_law_610 ?_
  refine t_callV (n := 1) C w hT hm_m ht_m (by decide) rfl rfl (c_X7_hole l D K _ sa _ L2 _ Ψ2 hT m_ hm_m ht_m (xs 1) (fun b c h1 h2 h3 h4 => (hno_7 b h1 h3).trans (hno_7 c h2 h4).symm)) gw_1503 gw_1500 gw_1501 gw_1502 gw_8 ⟨by decide, by decide, by decide +kernel⟩ rfl rfl ⟨Nat.le_of_ble_eq_true rfl, Nat.le_of_ble_eq_true rfl⟩ rfl hl.1 rfl (Nat.le_of_ble_eq_true rfl) dL_law_611 ⟨Nat.le_of_ble_eq_true rfl, Nat.le_of_ble_eq_true rfl⟩ (fun v u H locs hp w => ?_)
  obtain ⟨r2, th, f3, rfl, rfl, hT3, hR3, hbl2⟩ := hp
  have hf_o := (hR3 o hm_o ht_o).trans hf_o
  clear hT
  have hT := hT3
  clear hT3
  rcases hal with ⟨rfl, v1, hg, ⟨rfl, ha0, ha1⟩⟩ | ⟨rfl, ha0⟩
  ·
    rcases hbl2 with ⟨rfl, rfl, hb0⟩ | ⟨rfl, rfl, hb0, hb1⟩
    ·
      exfalso
      omega
    ·
      refine lv_istore (lv' := [(6, .int 63), (5, .int 0), (0, .ref b), (1, .ref x), (2, .ref m_), (3, .ref o), (4, .int 0)]) hx hb dL_law_614 hl (by decide) rfl (fun ls hl => ?_)
      refine lv_aload_n hx hb dL_law_616 rfl (lv_at hl 4 rfl) ?_
      refine t_callV (n := 0) C w hT hm_m ht_m (by decide) rfl rfl (c_X7_thrown l D K _ sa _ L2 _ Ψ2 0 hT m_ hm_m ht_m) gw_1332 gw_1329 gw_1330 gw_1331 gw_8 ⟨by decide, by decide, by decide +kernel⟩ rfl rfl ⟨Nat.le_of_ble_eq_true rfl, Nat.le_of_ble_eq_true rfl⟩ rfl hl.1 rfl (Nat.le_of_ble_eq_true rfl) dL_law_617 ⟨Nat.le_of_ble_eq_true rfl, Nat.le_of_ble_eq_true rfl⟩ (fun v u H locs hp w => ?_)
      obtain ⟨rfl, rfl⟩ := hp
      refine lv_iload hx hb dL_law_620 (lv_at hl 1 rfl) ?_
      refine lv_icmp_eq (tgt := 627) hx hb dL_law_622 (by decide) (fun _ => ?_) (fun c0 => absurd c0 (by decide))
      refine lv_iload hx hb dL_law_627 (lv_at hl 1 rfl) ?_
      refine lv_if_ne (tgt := 644) hx hb dL_law_629 (by decide) (fun c0 => absurd c0 (by decide)) (fun _ => ?_)
      refine lv_aload_n hx hb dL_law_632 rfl (lv_at hl 5 rfl) ?_
      refine lv_iconst (v := 0) hx hb dL_law_633 (by decide) ?_
      refine t_laldR C w hm_o hf_o hg dL_law_634 ?_
      refine lv_iload hx hb dL_law_635 (lv_at hl 0 rfl) ?_
      refine lv_i2l (v := (63 : Int32).toInt64) hx hb dL_law_637 rfl ?_
      refine W.lcmp hx hb dL_law_638 ?_
      refine lv_topi (fun y3 ey3 => ?_)
      obtain rfl : y3 = 0 := ey3.trans (lg_cmp_self _)
      refine lv_if_eq (tgt := 644) hx hb dL_law_639 (by decide) (fun _ => ?_) (fun c0 => absurd c0 (by decide))
      refine lv_goto (tgt := 2320) hx hb dL_law_644 (by decide) ?_
      exact law_end A w (Nat.le_of_ble_eq_true rfl) (Nat.le_of_ble_eq_true rfl) (lv_sub hl [6, 2] rfl)
  ·
    rcases hbl2 with ⟨rfl, rfl, hb0⟩ | ⟨rfl, rfl, hb0, hb1⟩
    ·
      refine lv_istore (lv' := [(6, .int 0), (5, .int 1), (0, .ref b), (1, .ref x), (2, .ref m_), (3, .ref o), (4, .int 0)]) hx hb dL_law_614 hl (by decide) rfl (fun ls hl => ?_)
      refine lv_aload_n hx hb dL_law_616 rfl (lv_at hl 4 rfl) ?_
      refine t_callV (n := 0) C w hT hm_m ht_m (by decide) rfl rfl (c_X7_thrown l D K _ sa _ L2 _ Ψ2 1 hT m_ hm_m ht_m) gw_1332 gw_1329 gw_1330 gw_1331 gw_8 ⟨by decide, by decide, by decide +kernel⟩ rfl rfl ⟨Nat.le_of_ble_eq_true rfl, Nat.le_of_ble_eq_true rfl⟩ rfl hl.1 rfl (Nat.le_of_ble_eq_true rfl) dL_law_617 ⟨Nat.le_of_ble_eq_true rfl, Nat.le_of_ble_eq_true rfl⟩ (fun v u H locs hp w => ?_)
      obtain ⟨rfl, rfl⟩ := hp
      refine lv_iload hx hb dL_law_620 (lv_at hl 1 rfl) ?_
      refine lv_icmp_eq (tgt := 627) hx hb dL_law_622 (by decide) (fun _ => ?_) (fun c0 => absurd c0 (by decide))
      refine lv_iload hx hb dL_law_627 (lv_at hl 1 rfl) ?_
      refine lv_if_ne (tgt := 644) hx hb dL_law_629 (by decide) (fun _ => ?_) (fun c0 => absurd c0 (by decide))
      refine lv_goto (tgt := 2320) hx hb dL_law_644 (by decide) ?_
      exact law_end A w (Nat.le_of_ble_eq_true rfl) (Nat.le_of_ble_eq_true rfl) (lv_sub hl [6, 2] rfl)
    ·
      exfalso
      omega
