/-! The law's loop. -/
theorem d_law_18 : decode code 18 = .ok (.iload_n 3, 1) := by decide +kernel
theorem d_law_19 : decode code 19 = .ok (.aload_n 0, 1) := by decide +kernel
theorem d_law_20 : decode code 20 = .ok (.arraylength, 1) := by decide +kernel
theorem d_law_21 : decode code 21 = .ok (.bipush 6, 2) := by decide +kernel
theorem d_law_23 : decode code 23 = .ok (.isub, 1) := by decide +kernel
theorem d_law_24 : decode code 24 = .ok (.if_icmp .gt 1557, 3) := by decide +kernel
theorem d_law_27 : decode code 27 = .ok (.aload_n 0, 1) := by decide +kernel
theorem d_law_28 : decode code 28 = .ok (.iload_n 3, 1) := by decide +kernel
theorem d_law_29 : decode code 29 = .ok (.iaload, 1) := by decide +kernel
theorem d_law_30 : decode code 30 = .ok (.bipush 63, 2) := by decide +kernel
theorem d_law_32 : decode code 32 = .ok (.iand, 1) := by decide +kernel
theorem d_law_33 : decode code 33 = .ok (.tableswitch 1542 0 47 #[207, 240, 273, 316, 359, 392, 415, 448, 471, 494, 537, 560, 593, 626, 649, 672, 715, 738, 771, 804, 817, 830, 863, 896, 909, 932, 945, 968, 991, 1024, 1057, 1080, 1114, 1137, 1170, 1183, 1196, 1229, 1262, 1305, 1348, 1411, 1434, 1457, 1470, 1483, 1496, 1519], 207) := by decide +kernel
theorem d_law_240 : decode code 240 = .ok (.aload_n 1, 1) := by decide +kernel
theorem d_law_241 : decode code 241 = .ok (.aload_n 0, 1) := by decide +kernel
theorem d_law_242 : decode code 242 = .ok (.iload_n 3, 1) := by decide +kernel
theorem d_law_243 : decode code 243 = .ok (.iconst 1, 1) := by decide +kernel
theorem d_law_244 : decode code 244 = .ok (.iadd, 1) := by decide +kernel
theorem d_law_245 : decode code 245 = .ok (.iaload, 1) := by decide +kernel
theorem d_law_246 : decode code 246 = .ok (.aload_n 0, 1) := by decide +kernel
theorem d_law_247 : decode code 247 = .ok (.iload_n 3, 1) := by decide +kernel
theorem d_law_248 : decode code 248 = .ok (.iconst 2, 1) := by decide +kernel
theorem d_law_249 : decode code 249 = .ok (.iadd, 1) := by decide +kernel
theorem d_law_250 : decode code 250 = .ok (.iaload, 1) := by decide +kernel
theorem d_law_251 : decode code 251 = .ok (.invokevirtual 13, 3) := by decide +kernel
theorem d_law_254 : decode code 254 = .ok (.aload_n 2, 1) := by decide +kernel
theorem d_law_255 : decode code 255 = .ok (.aload_n 0, 1) := by decide +kernel
theorem d_law_256 : decode code 256 = .ok (.iload_n 3, 1) := by decide +kernel
theorem d_law_257 : decode code 257 = .ok (.iconst 1, 1) := by decide +kernel
theorem d_law_258 : decode code 258 = .ok (.iadd, 1) := by decide +kernel
theorem d_law_259 : decode code 259 = .ok (.iaload, 1) := by decide +kernel
theorem d_law_260 : decode code 260 = .ok (.aload_n 0, 1) := by decide +kernel
theorem d_law_261 : decode code 261 = .ok (.iload_n 3, 1) := by decide +kernel
theorem d_law_262 : decode code 262 = .ok (.iconst 2, 1) := by decide +kernel
theorem d_law_263 : decode code 263 = .ok (.iadd, 1) := by decide +kernel
theorem d_law_264 : decode code 264 = .ok (.iaload, 1) := by decide +kernel
theorem d_law_265 : decode code 265 = .ok (.invokevirtual 17, 3) := by decide +kernel
theorem d_law_268 : decode code 268 = .ok (.if_icmp .eq 1307, 3) := by decide +kernel
theorem d_law_271 : decode code 271 = .ok (.iconst 0, 1) := by decide +kernel
theorem d_law_272 : decode code 272 = .ok (.ireturn, 1) := by decide +kernel
theorem d_law_273 : decode code 273 = .ok (.aload_n 1, 1) := by decide +kernel
theorem d_law_274 : decode code 274 = .ok (.aload_n 0, 1) := by decide +kernel
theorem d_law_275 : decode code 275 = .ok (.iload_n 3, 1) := by decide +kernel
theorem d_law_276 : decode code 276 = .ok (.iconst 1, 1) := by decide +kernel
theorem d_law_277 : decode code 277 = .ok (.iadd, 1) := by decide +kernel
theorem d_law_278 : decode code 278 = .ok (.iaload, 1) := by decide +kernel
theorem d_law_279 : decode code 279 = .ok (.aload_n 0, 1) := by decide +kernel
theorem d_law_280 : decode code 280 = .ok (.iload_n 3, 1) := by decide +kernel
theorem d_law_281 : decode code 281 = .ok (.iconst 2, 1) := by decide +kernel
theorem d_law_282 : decode code 282 = .ok (.iadd, 1) := by decide +kernel
theorem d_law_283 : decode code 283 = .ok (.iaload, 1) := by decide +kernel
theorem d_law_284 : decode code 284 = .ok (.invokevirtual 18, 3) := by decide +kernel
theorem d_law_287 : decode code 287 = .ok (.aload_n 2, 1) := by decide +kernel
theorem d_law_288 : decode code 288 = .ok (.aload_n 0, 1) := by decide +kernel
theorem d_law_289 : decode code 289 = .ok (.iload_n 3, 1) := by decide +kernel
theorem d_law_290 : decode code 290 = .ok (.iconst 1, 1) := by decide +kernel
theorem d_law_291 : decode code 291 = .ok (.iadd, 1) := by decide +kernel
theorem d_law_292 : decode code 292 = .ok (.iaload, 1) := by decide +kernel
theorem d_law_293 : decode code 293 = .ok (.aload_n 0, 1) := by decide +kernel
theorem d_law_294 : decode code 294 = .ok (.iload_n 3, 1) := by decide +kernel
theorem d_law_295 : decode code 295 = .ok (.iconst 2, 1) := by decide +kernel
theorem d_law_296 : decode code 296 = .ok (.iadd, 1) := by decide +kernel
theorem d_law_297 : decode code 297 = .ok (.iaload, 1) := by decide +kernel
theorem d_law_298 : decode code 298 = .ok (.invokevirtual 21, 3) := by decide +kernel
theorem d_law_301 : decode code 301 = .ok (.if_icmp .eq 1274, 3) := by decide +kernel
theorem d_law_304 : decode code 304 = .ok (.iconst 0, 1) := by decide +kernel
theorem d_law_305 : decode code 305 = .ok (.ireturn, 1) := by decide +kernel
theorem d_law_306 : decode code 306 = .ok (.aload_n 1, 1) := by decide +kernel
theorem d_law_307 : decode code 307 = .ok (.aload_n 0, 1) := by decide +kernel
theorem d_law_308 : decode code 308 = .ok (.iload_n 3, 1) := by decide +kernel
theorem d_law_309 : decode code 309 = .ok (.iconst 1, 1) := by decide +kernel
theorem d_law_310 : decode code 310 = .ok (.iadd, 1) := by decide +kernel
theorem d_law_311 : decode code 311 = .ok (.iaload, 1) := by decide +kernel
theorem d_law_312 : decode code 312 = .ok (.aload_n 0, 1) := by decide +kernel
theorem d_law_313 : decode code 313 = .ok (.iload_n 3, 1) := by decide +kernel
theorem d_law_314 : decode code 314 = .ok (.iconst 2, 1) := by decide +kernel
theorem d_law_315 : decode code 315 = .ok (.iadd, 1) := by decide +kernel
theorem d_law_316 : decode code 316 = .ok (.iaload, 1) := by decide +kernel
theorem d_law_317 : decode code 317 = .ok (.aload_n 0, 1) := by decide +kernel
theorem d_law_318 : decode code 318 = .ok (.iload_n 3, 1) := by decide +kernel
theorem d_law_319 : decode code 319 = .ok (.iconst 3, 1) := by decide +kernel
theorem d_law_320 : decode code 320 = .ok (.iadd, 1) := by decide +kernel
theorem d_law_321 : decode code 321 = .ok (.iaload, 1) := by decide +kernel
theorem d_law_322 : decode code 322 = .ok (.invokevirtual 22, 3) := by decide +kernel
theorem d_law_325 : decode code 325 = .ok (.aload_n 2, 1) := by decide +kernel
theorem d_law_326 : decode code 326 = .ok (.aload_n 0, 1) := by decide +kernel
theorem d_law_327 : decode code 327 = .ok (.iload_n 3, 1) := by decide +kernel
theorem d_law_328 : decode code 328 = .ok (.iconst 1, 1) := by decide +kernel
theorem d_law_329 : decode code 329 = .ok (.iadd, 1) := by decide +kernel
theorem d_law_330 : decode code 330 = .ok (.iaload, 1) := by decide +kernel
theorem d_law_331 : decode code 331 = .ok (.aload_n 0, 1) := by decide +kernel
theorem d_law_332 : decode code 332 = .ok (.iload_n 3, 1) := by decide +kernel
theorem d_law_333 : decode code 333 = .ok (.iconst 2, 1) := by decide +kernel
theorem d_law_334 : decode code 334 = .ok (.iadd, 1) := by decide +kernel
theorem d_law_335 : decode code 335 = .ok (.iaload, 1) := by decide +kernel
theorem d_law_336 : decode code 336 = .ok (.aload_n 0, 1) := by decide +kernel
theorem d_law_337 : decode code 337 = .ok (.iload_n 3, 1) := by decide +kernel
theorem d_law_338 : decode code 338 = .ok (.iconst 3, 1) := by decide +kernel
theorem d_law_339 : decode code 339 = .ok (.iadd, 1) := by decide +kernel
theorem d_law_340 : decode code 340 = .ok (.iaload, 1) := by decide +kernel
theorem d_law_341 : decode code 341 = .ok (.invokevirtual 26, 3) := by decide +kernel
theorem d_law_344 : decode code 344 = .ok (.if_icmp .eq 1231, 3) := by decide +kernel
theorem d_law_347 : decode code 347 = .ok (.iconst 0, 1) := by decide +kernel
theorem d_law_348 : decode code 348 = .ok (.ireturn, 1) := by decide +kernel
theorem d_law_349 : decode code 349 = .ok (.aload_n 1, 1) := by decide +kernel
theorem d_law_350 : decode code 350 = .ok (.aload_n 0, 1) := by decide +kernel
theorem d_law_351 : decode code 351 = .ok (.iload_n 3, 1) := by decide +kernel
theorem d_law_352 : decode code 352 = .ok (.iconst 1, 1) := by decide +kernel
theorem d_law_353 : decode code 353 = .ok (.iadd, 1) := by decide +kernel
theorem d_law_354 : decode code 354 = .ok (.iaload, 1) := by decide +kernel
theorem d_law_355 : decode code 355 = .ok (.aload_n 0, 1) := by decide +kernel
theorem d_law_356 : decode code 356 = .ok (.iload_n 3, 1) := by decide +kernel
theorem d_law_357 : decode code 357 = .ok (.iconst 2, 1) := by decide +kernel
theorem d_law_358 : decode code 358 = .ok (.iadd, 1) := by decide +kernel
theorem d_law_359 : decode code 359 = .ok (.iaload, 1) := by decide +kernel
theorem d_law_360 : decode code 360 = .ok (.aload_n 0, 1) := by decide +kernel
theorem d_law_361 : decode code 361 = .ok (.iload_n 3, 1) := by decide +kernel
theorem d_law_362 : decode code 362 = .ok (.iconst 3, 1) := by decide +kernel
theorem d_law_363 : decode code 363 = .ok (.iadd, 1) := by decide +kernel
theorem d_law_364 : decode code 364 = .ok (.iaload, 1) := by decide +kernel
theorem d_law_365 : decode code 365 = .ok (.invokevirtual 27, 3) := by decide +kernel
theorem d_law_368 : decode code 368 = .ok (.aload_n 2, 1) := by decide +kernel
theorem d_law_369 : decode code 369 = .ok (.aload_n 0, 1) := by decide +kernel
theorem d_law_370 : decode code 370 = .ok (.iload_n 3, 1) := by decide +kernel
theorem d_law_371 : decode code 371 = .ok (.iconst 1, 1) := by decide +kernel
theorem d_law_372 : decode code 372 = .ok (.iadd, 1) := by decide +kernel
theorem d_law_373 : decode code 373 = .ok (.iaload, 1) := by decide +kernel
theorem d_law_374 : decode code 374 = .ok (.aload_n 0, 1) := by decide +kernel
theorem d_law_375 : decode code 375 = .ok (.iload_n 3, 1) := by decide +kernel
theorem d_law_376 : decode code 376 = .ok (.iconst 2, 1) := by decide +kernel
theorem d_law_377 : decode code 377 = .ok (.iadd, 1) := by decide +kernel
theorem d_law_378 : decode code 378 = .ok (.iaload, 1) := by decide +kernel
theorem d_law_379 : decode code 379 = .ok (.aload_n 0, 1) := by decide +kernel
theorem d_law_380 : decode code 380 = .ok (.iload_n 3, 1) := by decide +kernel
theorem d_law_381 : decode code 381 = .ok (.iconst 3, 1) := by decide +kernel
theorem d_law_382 : decode code 382 = .ok (.iadd, 1) := by decide +kernel
theorem d_law_383 : decode code 383 = .ok (.iaload, 1) := by decide +kernel
theorem d_law_384 : decode code 384 = .ok (.invokevirtual 30, 3) := by decide +kernel
theorem d_law_387 : decode code 387 = .ok (.if_icmp .eq 1188, 3) := by decide +kernel
theorem d_law_390 : decode code 390 = .ok (.iconst 0, 1) := by decide +kernel
theorem d_law_391 : decode code 391 = .ok (.ireturn, 1) := by decide +kernel
theorem d_law_392 : decode code 392 = .ok (.aload_n 1, 1) := by decide +kernel
theorem d_law_393 : decode code 393 = .ok (.aload_n 0, 1) := by decide +kernel
theorem d_law_394 : decode code 394 = .ok (.iload_n 3, 1) := by decide +kernel
theorem d_law_395 : decode code 395 = .ok (.iconst 1, 1) := by decide +kernel
theorem d_law_396 : decode code 396 = .ok (.iadd, 1) := by decide +kernel
theorem d_law_397 : decode code 397 = .ok (.iaload, 1) := by decide +kernel
theorem d_law_398 : decode code 398 = .ok (.aload_n 0, 1) := by decide +kernel
theorem d_law_399 : decode code 399 = .ok (.iload_n 3, 1) := by decide +kernel
theorem d_law_400 : decode code 400 = .ok (.iconst 2, 1) := by decide +kernel
theorem d_law_401 : decode code 401 = .ok (.iadd, 1) := by decide +kernel
theorem d_law_402 : decode code 402 = .ok (.iaload, 1) := by decide +kernel
theorem d_law_403 : decode code 403 = .ok (.invokevirtual 31, 3) := by decide +kernel
theorem d_law_406 : decode code 406 = .ok (.aload_n 2, 1) := by decide +kernel
theorem d_law_407 : decode code 407 = .ok (.aload_n 0, 1) := by decide +kernel
theorem d_law_408 : decode code 408 = .ok (.iload_n 3, 1) := by decide +kernel
theorem d_law_409 : decode code 409 = .ok (.iconst 1, 1) := by decide +kernel
theorem d_law_410 : decode code 410 = .ok (.iadd, 1) := by decide +kernel
theorem d_law_411 : decode code 411 = .ok (.iaload, 1) := by decide +kernel
theorem d_law_412 : decode code 412 = .ok (.aload_n 0, 1) := by decide +kernel
theorem d_law_413 : decode code 413 = .ok (.iload_n 3, 1) := by decide +kernel
theorem d_law_414 : decode code 414 = .ok (.iconst 2, 1) := by decide +kernel
theorem d_law_415 : decode code 415 = .ok (.iadd, 1) := by decide +kernel
theorem d_law_416 : decode code 416 = .ok (.iaload, 1) := by decide +kernel
theorem d_law_417 : decode code 417 = .ok (.invokevirtual 34, 3) := by decide +kernel
theorem d_law_420 : decode code 420 = .ok (.if_icmp .eq 1155, 3) := by decide +kernel
theorem d_law_423 : decode code 423 = .ok (.iconst 0, 1) := by decide +kernel
theorem d_law_424 : decode code 424 = .ok (.ireturn, 1) := by decide +kernel
theorem d_law_425 : decode code 425 = .ok (.aload_n 1, 1) := by decide +kernel
theorem d_law_426 : decode code 426 = .ok (.aload_n 0, 1) := by decide +kernel
theorem d_law_427 : decode code 427 = .ok (.iload_n 3, 1) := by decide +kernel
theorem d_law_428 : decode code 428 = .ok (.iconst 1, 1) := by decide +kernel
theorem d_law_429 : decode code 429 = .ok (.iadd, 1) := by decide +kernel
theorem d_law_430 : decode code 430 = .ok (.iaload, 1) := by decide +kernel
theorem d_law_431 : decode code 431 = .ok (.invokevirtual 35, 3) := by decide +kernel
theorem d_law_434 : decode code 434 = .ok (.aload_n 2, 1) := by decide +kernel
theorem d_law_435 : decode code 435 = .ok (.aload_n 0, 1) := by decide +kernel
theorem d_law_436 : decode code 436 = .ok (.iload_n 3, 1) := by decide +kernel
theorem d_law_437 : decode code 437 = .ok (.iconst 1, 1) := by decide +kernel
theorem d_law_438 : decode code 438 = .ok (.iadd, 1) := by decide +kernel
theorem d_law_439 : decode code 439 = .ok (.iaload, 1) := by decide +kernel
theorem d_law_440 : decode code 440 = .ok (.invokevirtual 39, 3) := by decide +kernel
theorem d_law_443 : decode code 443 = .ok (.if_icmp .eq 1132, 3) := by decide +kernel
theorem d_law_446 : decode code 446 = .ok (.iconst 0, 1) := by decide +kernel
theorem d_law_447 : decode code 447 = .ok (.ireturn, 1) := by decide +kernel
theorem d_law_448 : decode code 448 = .ok (.aload_n 1, 1) := by decide +kernel
theorem d_law_449 : decode code 449 = .ok (.aload_n 0, 1) := by decide +kernel
theorem d_law_450 : decode code 450 = .ok (.iload_n 3, 1) := by decide +kernel
theorem d_law_451 : decode code 451 = .ok (.iconst 1, 1) := by decide +kernel
theorem d_law_452 : decode code 452 = .ok (.iadd, 1) := by decide +kernel
theorem d_law_453 : decode code 453 = .ok (.iaload, 1) := by decide +kernel
theorem d_law_454 : decode code 454 = .ok (.aload_n 0, 1) := by decide +kernel
theorem d_law_455 : decode code 455 = .ok (.iload_n 3, 1) := by decide +kernel
theorem d_law_456 : decode code 456 = .ok (.iconst 2, 1) := by decide +kernel
theorem d_law_457 : decode code 457 = .ok (.iadd, 1) := by decide +kernel
theorem d_law_458 : decode code 458 = .ok (.iaload, 1) := by decide +kernel
theorem d_law_459 : decode code 459 = .ok (.invokevirtual 40, 3) := by decide +kernel
theorem d_law_462 : decode code 462 = .ok (.aload_n 2, 1) := by decide +kernel
theorem d_law_463 : decode code 463 = .ok (.aload_n 0, 1) := by decide +kernel
theorem d_law_464 : decode code 464 = .ok (.iload_n 3, 1) := by decide +kernel
theorem d_law_465 : decode code 465 = .ok (.iconst 1, 1) := by decide +kernel
theorem d_law_466 : decode code 466 = .ok (.iadd, 1) := by decide +kernel
theorem d_law_467 : decode code 467 = .ok (.iaload, 1) := by decide +kernel
theorem d_law_468 : decode code 468 = .ok (.aload_n 0, 1) := by decide +kernel
theorem d_law_469 : decode code 469 = .ok (.iload_n 3, 1) := by decide +kernel
theorem d_law_470 : decode code 470 = .ok (.iconst 2, 1) := by decide +kernel
theorem d_law_471 : decode code 471 = .ok (.iadd, 1) := by decide +kernel
theorem d_law_472 : decode code 472 = .ok (.iaload, 1) := by decide +kernel
theorem d_law_473 : decode code 473 = .ok (.invokevirtual 43, 3) := by decide +kernel
theorem d_law_476 : decode code 476 = .ok (.if_icmp .eq 1099, 3) := by decide +kernel
theorem d_law_479 : decode code 479 = .ok (.iconst 0, 1) := by decide +kernel
theorem d_law_480 : decode code 480 = .ok (.ireturn, 1) := by decide +kernel
theorem d_law_481 : decode code 481 = .ok (.aload_n 1, 1) := by decide +kernel
theorem d_law_482 : decode code 482 = .ok (.aload_n 0, 1) := by decide +kernel
theorem d_law_483 : decode code 483 = .ok (.iload_n 3, 1) := by decide +kernel
theorem d_law_484 : decode code 484 = .ok (.iconst 1, 1) := by decide +kernel
theorem d_law_485 : decode code 485 = .ok (.iadd, 1) := by decide +kernel
theorem d_law_486 : decode code 486 = .ok (.iaload, 1) := by decide +kernel
theorem d_law_487 : decode code 487 = .ok (.invokevirtual 44, 3) := by decide +kernel
theorem d_law_490 : decode code 490 = .ok (.aload_n 2, 1) := by decide +kernel
theorem d_law_491 : decode code 491 = .ok (.aload_n 0, 1) := by decide +kernel
theorem d_law_492 : decode code 492 = .ok (.iload_n 3, 1) := by decide +kernel
theorem d_law_493 : decode code 493 = .ok (.iconst 1, 1) := by decide +kernel
theorem d_law_494 : decode code 494 = .ok (.iadd, 1) := by decide +kernel
theorem d_law_495 : decode code 495 = .ok (.iaload, 1) := by decide +kernel
theorem d_law_496 : decode code 496 = .ok (.invokevirtual 47, 3) := by decide +kernel
theorem d_law_499 : decode code 499 = .ok (.if_icmp .eq 1076, 3) := by decide +kernel
theorem d_law_502 : decode code 502 = .ok (.iconst 0, 1) := by decide +kernel
theorem d_law_503 : decode code 503 = .ok (.ireturn, 1) := by decide +kernel
theorem d_law_504 : decode code 504 = .ok (.aload_n 1, 1) := by decide +kernel
theorem d_law_505 : decode code 505 = .ok (.aload_n 0, 1) := by decide +kernel
theorem d_law_506 : decode code 506 = .ok (.iload_n 3, 1) := by decide +kernel
theorem d_law_507 : decode code 507 = .ok (.iconst 1, 1) := by decide +kernel
theorem d_law_508 : decode code 508 = .ok (.iadd, 1) := by decide +kernel
theorem d_law_509 : decode code 509 = .ok (.iaload, 1) := by decide +kernel
theorem d_law_510 : decode code 510 = .ok (.invokevirtual 48, 3) := by decide +kernel
theorem d_law_513 : decode code 513 = .ok (.aload_n 2, 1) := by decide +kernel
theorem d_law_514 : decode code 514 = .ok (.aload_n 0, 1) := by decide +kernel
theorem d_law_515 : decode code 515 = .ok (.iload_n 3, 1) := by decide +kernel
theorem d_law_516 : decode code 516 = .ok (.iconst 1, 1) := by decide +kernel
theorem d_law_517 : decode code 517 = .ok (.iadd, 1) := by decide +kernel
theorem d_law_518 : decode code 518 = .ok (.iaload, 1) := by decide +kernel
theorem d_law_519 : decode code 519 = .ok (.invokevirtual 51, 3) := by decide +kernel
theorem d_law_522 : decode code 522 = .ok (.if_icmp .eq 1053, 3) := by decide +kernel
theorem d_law_525 : decode code 525 = .ok (.iconst 0, 1) := by decide +kernel
theorem d_law_526 : decode code 526 = .ok (.ireturn, 1) := by decide +kernel
theorem d_law_527 : decode code 527 = .ok (.aload_n 1, 1) := by decide +kernel
theorem d_law_528 : decode code 528 = .ok (.aload_n 0, 1) := by decide +kernel
theorem d_law_529 : decode code 529 = .ok (.iload_n 3, 1) := by decide +kernel
theorem d_law_530 : decode code 530 = .ok (.iconst 1, 1) := by decide +kernel
theorem d_law_531 : decode code 531 = .ok (.iadd, 1) := by decide +kernel
theorem d_law_532 : decode code 532 = .ok (.iaload, 1) := by decide +kernel
theorem d_law_533 : decode code 533 = .ok (.aload_n 0, 1) := by decide +kernel
theorem d_law_534 : decode code 534 = .ok (.iload_n 3, 1) := by decide +kernel
theorem d_law_535 : decode code 535 = .ok (.iconst 2, 1) := by decide +kernel
theorem d_law_536 : decode code 536 = .ok (.iadd, 1) := by decide +kernel
theorem d_law_537 : decode code 537 = .ok (.iaload, 1) := by decide +kernel
theorem d_law_538 : decode code 538 = .ok (.aload_n 0, 1) := by decide +kernel
theorem d_law_539 : decode code 539 = .ok (.iload_n 3, 1) := by decide +kernel
theorem d_law_540 : decode code 540 = .ok (.iconst 3, 1) := by decide +kernel
theorem d_law_541 : decode code 541 = .ok (.iadd, 1) := by decide +kernel
theorem d_law_542 : decode code 542 = .ok (.iaload, 1) := by decide +kernel
theorem d_law_543 : decode code 543 = .ok (.invokevirtual 52, 3) := by decide +kernel
theorem d_law_546 : decode code 546 = .ok (.aload_n 2, 1) := by decide +kernel
theorem d_law_547 : decode code 547 = .ok (.aload_n 0, 1) := by decide +kernel
theorem d_law_548 : decode code 548 = .ok (.iload_n 3, 1) := by decide +kernel
theorem d_law_549 : decode code 549 = .ok (.iconst 1, 1) := by decide +kernel
theorem d_law_550 : decode code 550 = .ok (.iadd, 1) := by decide +kernel
theorem d_law_551 : decode code 551 = .ok (.iaload, 1) := by decide +kernel
theorem d_law_552 : decode code 552 = .ok (.aload_n 0, 1) := by decide +kernel
theorem d_law_553 : decode code 553 = .ok (.iload_n 3, 1) := by decide +kernel
theorem d_law_554 : decode code 554 = .ok (.iconst 2, 1) := by decide +kernel
theorem d_law_555 : decode code 555 = .ok (.iadd, 1) := by decide +kernel
theorem d_law_556 : decode code 556 = .ok (.iaload, 1) := by decide +kernel
theorem d_law_557 : decode code 557 = .ok (.aload_n 0, 1) := by decide +kernel
theorem d_law_558 : decode code 558 = .ok (.iload_n 3, 1) := by decide +kernel
theorem d_law_559 : decode code 559 = .ok (.iconst 3, 1) := by decide +kernel
theorem d_law_560 : decode code 560 = .ok (.iadd, 1) := by decide +kernel
theorem d_law_561 : decode code 561 = .ok (.iaload, 1) := by decide +kernel
theorem d_law_562 : decode code 562 = .ok (.invokevirtual 55, 3) := by decide +kernel
theorem d_law_565 : decode code 565 = .ok (.if_icmp .eq 1010, 3) := by decide +kernel
theorem d_law_568 : decode code 568 = .ok (.iconst 0, 1) := by decide +kernel
theorem d_law_569 : decode code 569 = .ok (.ireturn, 1) := by decide +kernel
theorem d_law_570 : decode code 570 = .ok (.aload_n 1, 1) := by decide +kernel
theorem d_law_571 : decode code 571 = .ok (.aload_n 0, 1) := by decide +kernel
theorem d_law_572 : decode code 572 = .ok (.iload_n 3, 1) := by decide +kernel
theorem d_law_573 : decode code 573 = .ok (.iconst 1, 1) := by decide +kernel
theorem d_law_574 : decode code 574 = .ok (.iadd, 1) := by decide +kernel
theorem d_law_575 : decode code 575 = .ok (.iaload, 1) := by decide +kernel
theorem d_law_576 : decode code 576 = .ok (.invokevirtual 56, 3) := by decide +kernel
theorem d_law_579 : decode code 579 = .ok (.aload_n 2, 1) := by decide +kernel
theorem d_law_580 : decode code 580 = .ok (.aload_n 0, 1) := by decide +kernel
theorem d_law_581 : decode code 581 = .ok (.iload_n 3, 1) := by decide +kernel
theorem d_law_582 : decode code 582 = .ok (.iconst 1, 1) := by decide +kernel
theorem d_law_583 : decode code 583 = .ok (.iadd, 1) := by decide +kernel
theorem d_law_584 : decode code 584 = .ok (.iaload, 1) := by decide +kernel
theorem d_law_585 : decode code 585 = .ok (.invokevirtual 59, 3) := by decide +kernel
theorem d_law_588 : decode code 588 = .ok (.if_icmp .eq 987, 3) := by decide +kernel
theorem d_law_591 : decode code 591 = .ok (.iconst 0, 1) := by decide +kernel
theorem d_law_592 : decode code 592 = .ok (.ireturn, 1) := by decide +kernel
theorem d_law_593 : decode code 593 = .ok (.aload_n 1, 1) := by decide +kernel
theorem d_law_594 : decode code 594 = .ok (.aload_n 0, 1) := by decide +kernel
theorem d_law_595 : decode code 595 = .ok (.iload_n 3, 1) := by decide +kernel
theorem d_law_596 : decode code 596 = .ok (.iconst 1, 1) := by decide +kernel
theorem d_law_597 : decode code 597 = .ok (.iadd, 1) := by decide +kernel
theorem d_law_598 : decode code 598 = .ok (.iaload, 1) := by decide +kernel
theorem d_law_599 : decode code 599 = .ok (.aload_n 0, 1) := by decide +kernel
theorem d_law_600 : decode code 600 = .ok (.iload_n 3, 1) := by decide +kernel
theorem d_law_601 : decode code 601 = .ok (.iconst 2, 1) := by decide +kernel
theorem d_law_602 : decode code 602 = .ok (.iadd, 1) := by decide +kernel
theorem d_law_603 : decode code 603 = .ok (.iaload, 1) := by decide +kernel
theorem d_law_604 : decode code 604 = .ok (.invokevirtual 60, 3) := by decide +kernel
theorem d_law_607 : decode code 607 = .ok (.aload_n 2, 1) := by decide +kernel
theorem d_law_608 : decode code 608 = .ok (.aload_n 0, 1) := by decide +kernel
theorem d_law_609 : decode code 609 = .ok (.iload_n 3, 1) := by decide +kernel
theorem d_law_610 : decode code 610 = .ok (.iconst 1, 1) := by decide +kernel
theorem d_law_611 : decode code 611 = .ok (.iadd, 1) := by decide +kernel
theorem d_law_612 : decode code 612 = .ok (.iaload, 1) := by decide +kernel
theorem d_law_613 : decode code 613 = .ok (.aload_n 0, 1) := by decide +kernel
theorem d_law_614 : decode code 614 = .ok (.iload_n 3, 1) := by decide +kernel
theorem d_law_615 : decode code 615 = .ok (.iconst 2, 1) := by decide +kernel
theorem d_law_616 : decode code 616 = .ok (.iadd, 1) := by decide +kernel
theorem d_law_617 : decode code 617 = .ok (.iaload, 1) := by decide +kernel
theorem d_law_618 : decode code 618 = .ok (.invokevirtual 63, 3) := by decide +kernel
theorem d_law_621 : decode code 621 = .ok (.if_icmp .eq 954, 3) := by decide +kernel
theorem d_law_624 : decode code 624 = .ok (.iconst 0, 1) := by decide +kernel
theorem d_law_625 : decode code 625 = .ok (.ireturn, 1) := by decide +kernel
theorem d_law_626 : decode code 626 = .ok (.aload_n 1, 1) := by decide +kernel
theorem d_law_627 : decode code 627 = .ok (.aload_n 0, 1) := by decide +kernel
theorem d_law_628 : decode code 628 = .ok (.iload_n 3, 1) := by decide +kernel
theorem d_law_629 : decode code 629 = .ok (.iconst 1, 1) := by decide +kernel
theorem d_law_630 : decode code 630 = .ok (.iadd, 1) := by decide +kernel
theorem d_law_631 : decode code 631 = .ok (.iaload, 1) := by decide +kernel
theorem d_law_632 : decode code 632 = .ok (.aload_n 0, 1) := by decide +kernel
theorem d_law_633 : decode code 633 = .ok (.iload_n 3, 1) := by decide +kernel
theorem d_law_634 : decode code 634 = .ok (.iconst 2, 1) := by decide +kernel
theorem d_law_635 : decode code 635 = .ok (.iadd, 1) := by decide +kernel
theorem d_law_636 : decode code 636 = .ok (.iaload, 1) := by decide +kernel
theorem d_law_637 : decode code 637 = .ok (.invokevirtual 64, 3) := by decide +kernel
theorem d_law_640 : decode code 640 = .ok (.aload_n 2, 1) := by decide +kernel
theorem d_law_641 : decode code 641 = .ok (.aload_n 0, 1) := by decide +kernel
theorem d_law_642 : decode code 642 = .ok (.iload_n 3, 1) := by decide +kernel
theorem d_law_643 : decode code 643 = .ok (.iconst 1, 1) := by decide +kernel
theorem d_law_644 : decode code 644 = .ok (.iadd, 1) := by decide +kernel
theorem d_law_645 : decode code 645 = .ok (.iaload, 1) := by decide +kernel
theorem d_law_646 : decode code 646 = .ok (.aload_n 0, 1) := by decide +kernel
theorem d_law_647 : decode code 647 = .ok (.iload_n 3, 1) := by decide +kernel
theorem d_law_648 : decode code 648 = .ok (.iconst 2, 1) := by decide +kernel
theorem d_law_649 : decode code 649 = .ok (.iadd, 1) := by decide +kernel
theorem d_law_650 : decode code 650 = .ok (.iaload, 1) := by decide +kernel
theorem d_law_651 : decode code 651 = .ok (.invokevirtual 67, 3) := by decide +kernel
theorem d_law_654 : decode code 654 = .ok (.if_icmp .eq 921, 3) := by decide +kernel
theorem d_law_657 : decode code 657 = .ok (.iconst 0, 1) := by decide +kernel
theorem d_law_658 : decode code 658 = .ok (.ireturn, 1) := by decide +kernel
theorem d_law_659 : decode code 659 = .ok (.aload_n 1, 1) := by decide +kernel
theorem d_law_660 : decode code 660 = .ok (.aload_n 0, 1) := by decide +kernel
theorem d_law_661 : decode code 661 = .ok (.iload_n 3, 1) := by decide +kernel
theorem d_law_662 : decode code 662 = .ok (.iconst 1, 1) := by decide +kernel
theorem d_law_663 : decode code 663 = .ok (.iadd, 1) := by decide +kernel
theorem d_law_664 : decode code 664 = .ok (.iaload, 1) := by decide +kernel
theorem d_law_665 : decode code 665 = .ok (.invokevirtual 68, 3) := by decide +kernel
theorem d_law_668 : decode code 668 = .ok (.aload_n 2, 1) := by decide +kernel
theorem d_law_669 : decode code 669 = .ok (.aload_n 0, 1) := by decide +kernel
theorem d_law_670 : decode code 670 = .ok (.iload_n 3, 1) := by decide +kernel
theorem d_law_671 : decode code 671 = .ok (.iconst 1, 1) := by decide +kernel
theorem d_law_672 : decode code 672 = .ok (.iadd, 1) := by decide +kernel
theorem d_law_673 : decode code 673 = .ok (.iaload, 1) := by decide +kernel
theorem d_law_674 : decode code 674 = .ok (.invokevirtual 71, 3) := by decide +kernel
theorem d_law_677 : decode code 677 = .ok (.if_icmp .eq 898, 3) := by decide +kernel
theorem d_law_680 : decode code 680 = .ok (.iconst 0, 1) := by decide +kernel
theorem d_law_681 : decode code 681 = .ok (.ireturn, 1) := by decide +kernel
theorem d_law_682 : decode code 682 = .ok (.aload_n 1, 1) := by decide +kernel
theorem d_law_683 : decode code 683 = .ok (.aload_n 0, 1) := by decide +kernel
theorem d_law_684 : decode code 684 = .ok (.iload_n 3, 1) := by decide +kernel
theorem d_law_685 : decode code 685 = .ok (.iconst 1, 1) := by decide +kernel
theorem d_law_686 : decode code 686 = .ok (.iadd, 1) := by decide +kernel
theorem d_law_687 : decode code 687 = .ok (.iaload, 1) := by decide +kernel
theorem d_law_688 : decode code 688 = .ok (.invokevirtual 72, 3) := by decide +kernel
theorem d_law_691 : decode code 691 = .ok (.aload_n 2, 1) := by decide +kernel
theorem d_law_692 : decode code 692 = .ok (.aload_n 0, 1) := by decide +kernel
theorem d_law_693 : decode code 693 = .ok (.iload_n 3, 1) := by decide +kernel
theorem d_law_694 : decode code 694 = .ok (.iconst 1, 1) := by decide +kernel
theorem d_law_695 : decode code 695 = .ok (.iadd, 1) := by decide +kernel
theorem d_law_696 : decode code 696 = .ok (.iaload, 1) := by decide +kernel
theorem d_law_697 : decode code 697 = .ok (.invokevirtual 75, 3) := by decide +kernel
theorem d_law_700 : decode code 700 = .ok (.if_icmp .eq 875, 3) := by decide +kernel
theorem d_law_703 : decode code 703 = .ok (.iconst 0, 1) := by decide +kernel
theorem d_law_704 : decode code 704 = .ok (.ireturn, 1) := by decide +kernel
theorem d_law_705 : decode code 705 = .ok (.aload_n 1, 1) := by decide +kernel
theorem d_law_706 : decode code 706 = .ok (.aload_n 0, 1) := by decide +kernel
theorem d_law_707 : decode code 707 = .ok (.iload_n 3, 1) := by decide +kernel
theorem d_law_708 : decode code 708 = .ok (.iconst 1, 1) := by decide +kernel
theorem d_law_709 : decode code 709 = .ok (.iadd, 1) := by decide +kernel
theorem d_law_710 : decode code 710 = .ok (.iaload, 1) := by decide +kernel
theorem d_law_711 : decode code 711 = .ok (.aload_n 0, 1) := by decide +kernel
theorem d_law_712 : decode code 712 = .ok (.iload_n 3, 1) := by decide +kernel
theorem d_law_713 : decode code 713 = .ok (.iconst 2, 1) := by decide +kernel
theorem d_law_714 : decode code 714 = .ok (.iadd, 1) := by decide +kernel
theorem d_law_715 : decode code 715 = .ok (.iaload, 1) := by decide +kernel
theorem d_law_716 : decode code 716 = .ok (.aload_n 0, 1) := by decide +kernel
theorem d_law_717 : decode code 717 = .ok (.iload_n 3, 1) := by decide +kernel
theorem d_law_718 : decode code 718 = .ok (.iconst 3, 1) := by decide +kernel
theorem d_law_719 : decode code 719 = .ok (.iadd, 1) := by decide +kernel
theorem d_law_720 : decode code 720 = .ok (.iaload, 1) := by decide +kernel
theorem d_law_721 : decode code 721 = .ok (.invokevirtual 76, 3) := by decide +kernel
theorem d_law_724 : decode code 724 = .ok (.aload_n 2, 1) := by decide +kernel
theorem d_law_725 : decode code 725 = .ok (.aload_n 0, 1) := by decide +kernel
theorem d_law_726 : decode code 726 = .ok (.iload_n 3, 1) := by decide +kernel
theorem d_law_727 : decode code 727 = .ok (.iconst 1, 1) := by decide +kernel
theorem d_law_728 : decode code 728 = .ok (.iadd, 1) := by decide +kernel
theorem d_law_729 : decode code 729 = .ok (.iaload, 1) := by decide +kernel
theorem d_law_730 : decode code 730 = .ok (.aload_n 0, 1) := by decide +kernel
theorem d_law_731 : decode code 731 = .ok (.iload_n 3, 1) := by decide +kernel
theorem d_law_732 : decode code 732 = .ok (.iconst 2, 1) := by decide +kernel
theorem d_law_733 : decode code 733 = .ok (.iadd, 1) := by decide +kernel
theorem d_law_734 : decode code 734 = .ok (.iaload, 1) := by decide +kernel
theorem d_law_735 : decode code 735 = .ok (.aload_n 0, 1) := by decide +kernel
theorem d_law_736 : decode code 736 = .ok (.iload_n 3, 1) := by decide +kernel
theorem d_law_737 : decode code 737 = .ok (.iconst 3, 1) := by decide +kernel
theorem d_law_738 : decode code 738 = .ok (.iadd, 1) := by decide +kernel
theorem d_law_739 : decode code 739 = .ok (.iaload, 1) := by decide +kernel
theorem d_law_740 : decode code 740 = .ok (.invokevirtual 79, 3) := by decide +kernel
theorem d_law_743 : decode code 743 = .ok (.if_icmp .eq 832, 3) := by decide +kernel
theorem d_law_746 : decode code 746 = .ok (.iconst 0, 1) := by decide +kernel
theorem d_law_747 : decode code 747 = .ok (.ireturn, 1) := by decide +kernel
theorem d_law_748 : decode code 748 = .ok (.aload_n 1, 1) := by decide +kernel
theorem d_law_749 : decode code 749 = .ok (.aload_n 0, 1) := by decide +kernel
theorem d_law_750 : decode code 750 = .ok (.iload_n 3, 1) := by decide +kernel
theorem d_law_751 : decode code 751 = .ok (.iconst 1, 1) := by decide +kernel
theorem d_law_752 : decode code 752 = .ok (.iadd, 1) := by decide +kernel
theorem d_law_753 : decode code 753 = .ok (.iaload, 1) := by decide +kernel
theorem d_law_754 : decode code 754 = .ok (.invokevirtual 80, 3) := by decide +kernel
theorem d_law_757 : decode code 757 = .ok (.aload_n 2, 1) := by decide +kernel
theorem d_law_758 : decode code 758 = .ok (.aload_n 0, 1) := by decide +kernel
theorem d_law_759 : decode code 759 = .ok (.iload_n 3, 1) := by decide +kernel
theorem d_law_760 : decode code 760 = .ok (.iconst 1, 1) := by decide +kernel
theorem d_law_761 : decode code 761 = .ok (.iadd, 1) := by decide +kernel
theorem d_law_762 : decode code 762 = .ok (.iaload, 1) := by decide +kernel
theorem d_law_763 : decode code 763 = .ok (.invokevirtual 83, 3) := by decide +kernel
theorem d_law_766 : decode code 766 = .ok (.if_icmp .eq 809, 3) := by decide +kernel
theorem d_law_769 : decode code 769 = .ok (.iconst 0, 1) := by decide +kernel
theorem d_law_770 : decode code 770 = .ok (.ireturn, 1) := by decide +kernel
theorem d_law_771 : decode code 771 = .ok (.aload_n 1, 1) := by decide +kernel
theorem d_law_772 : decode code 772 = .ok (.aload_n 0, 1) := by decide +kernel
theorem d_law_773 : decode code 773 = .ok (.iload_n 3, 1) := by decide +kernel
theorem d_law_774 : decode code 774 = .ok (.iconst 1, 1) := by decide +kernel
theorem d_law_775 : decode code 775 = .ok (.iadd, 1) := by decide +kernel
theorem d_law_776 : decode code 776 = .ok (.iaload, 1) := by decide +kernel
theorem d_law_777 : decode code 777 = .ok (.aload_n 0, 1) := by decide +kernel
theorem d_law_778 : decode code 778 = .ok (.iload_n 3, 1) := by decide +kernel
theorem d_law_779 : decode code 779 = .ok (.iconst 2, 1) := by decide +kernel
theorem d_law_780 : decode code 780 = .ok (.iadd, 1) := by decide +kernel
theorem d_law_781 : decode code 781 = .ok (.iaload, 1) := by decide +kernel
theorem d_law_782 : decode code 782 = .ok (.invokevirtual 84, 3) := by decide +kernel
theorem d_law_785 : decode code 785 = .ok (.aload_n 2, 1) := by decide +kernel
theorem d_law_786 : decode code 786 = .ok (.aload_n 0, 1) := by decide +kernel
theorem d_law_787 : decode code 787 = .ok (.iload_n 3, 1) := by decide +kernel
theorem d_law_788 : decode code 788 = .ok (.iconst 1, 1) := by decide +kernel
theorem d_law_789 : decode code 789 = .ok (.iadd, 1) := by decide +kernel
theorem d_law_790 : decode code 790 = .ok (.iaload, 1) := by decide +kernel
theorem d_law_791 : decode code 791 = .ok (.aload_n 0, 1) := by decide +kernel
theorem d_law_792 : decode code 792 = .ok (.iload_n 3, 1) := by decide +kernel
theorem d_law_793 : decode code 793 = .ok (.iconst 2, 1) := by decide +kernel
theorem d_law_794 : decode code 794 = .ok (.iadd, 1) := by decide +kernel
theorem d_law_795 : decode code 795 = .ok (.iaload, 1) := by decide +kernel
theorem d_law_796 : decode code 796 = .ok (.invokevirtual 87, 3) := by decide +kernel
theorem d_law_799 : decode code 799 = .ok (.if_icmp .eq 776, 3) := by decide +kernel
theorem d_law_802 : decode code 802 = .ok (.iconst 0, 1) := by decide +kernel
theorem d_law_803 : decode code 803 = .ok (.ireturn, 1) := by decide +kernel
theorem d_law_804 : decode code 804 = .ok (.aload_n 1, 1) := by decide +kernel
theorem d_law_805 : decode code 805 = .ok (.aload_n 0, 1) := by decide +kernel
theorem d_law_806 : decode code 806 = .ok (.iload_n 3, 1) := by decide +kernel
theorem d_law_807 : decode code 807 = .ok (.iconst 1, 1) := by decide +kernel
theorem d_law_808 : decode code 808 = .ok (.iadd, 1) := by decide +kernel
theorem d_law_809 : decode code 809 = .ok (.iaload, 1) := by decide +kernel
theorem d_law_810 : decode code 810 = .ok (.aload_n 0, 1) := by decide +kernel
theorem d_law_811 : decode code 811 = .ok (.iload_n 3, 1) := by decide +kernel
theorem d_law_812 : decode code 812 = .ok (.iconst 2, 1) := by decide +kernel
theorem d_law_813 : decode code 813 = .ok (.iadd, 1) := by decide +kernel
theorem d_law_814 : decode code 814 = .ok (.iaload, 1) := by decide +kernel
theorem d_law_815 : decode code 815 = .ok (.invokevirtual 88, 3) := by decide +kernel
theorem d_law_818 : decode code 818 = .ok (.aload_n 2, 1) := by decide +kernel
theorem d_law_819 : decode code 819 = .ok (.aload_n 0, 1) := by decide +kernel
theorem d_law_820 : decode code 820 = .ok (.iload_n 3, 1) := by decide +kernel
theorem d_law_821 : decode code 821 = .ok (.iconst 1, 1) := by decide +kernel
theorem d_law_822 : decode code 822 = .ok (.iadd, 1) := by decide +kernel
theorem d_law_823 : decode code 823 = .ok (.iaload, 1) := by decide +kernel
theorem d_law_824 : decode code 824 = .ok (.aload_n 0, 1) := by decide +kernel
theorem d_law_825 : decode code 825 = .ok (.iload_n 3, 1) := by decide +kernel
theorem d_law_826 : decode code 826 = .ok (.iconst 2, 1) := by decide +kernel
theorem d_law_827 : decode code 827 = .ok (.iadd, 1) := by decide +kernel
theorem d_law_828 : decode code 828 = .ok (.iaload, 1) := by decide +kernel
theorem d_law_829 : decode code 829 = .ok (.invokevirtual 91, 3) := by decide +kernel
theorem d_law_832 : decode code 832 = .ok (.if_icmp .eq 743, 3) := by decide +kernel
theorem d_law_835 : decode code 835 = .ok (.iconst 0, 1) := by decide +kernel
theorem d_law_836 : decode code 836 = .ok (.ireturn, 1) := by decide +kernel
theorem d_law_837 : decode code 837 = .ok (.aload_n 1, 1) := by decide +kernel
theorem d_law_838 : decode code 838 = .ok (.invokevirtual 92, 3) := by decide +kernel
theorem d_law_841 : decode code 841 = .ok (.aload_n 2, 1) := by decide +kernel
theorem d_law_842 : decode code 842 = .ok (.invokevirtual 96, 3) := by decide +kernel
theorem d_law_845 : decode code 845 = .ok (.if_icmp .eq 730, 3) := by decide +kernel
theorem d_law_848 : decode code 848 = .ok (.iconst 0, 1) := by decide +kernel
theorem d_law_849 : decode code 849 = .ok (.ireturn, 1) := by decide +kernel
theorem d_law_850 : decode code 850 = .ok (.aload_n 1, 1) := by decide +kernel
theorem d_law_851 : decode code 851 = .ok (.invokevirtual 97, 3) := by decide +kernel
theorem d_law_854 : decode code 854 = .ok (.aload_n 2, 1) := by decide +kernel
theorem d_law_855 : decode code 855 = .ok (.invokevirtual 100, 3) := by decide +kernel
theorem d_law_858 : decode code 858 = .ok (.if_icmp .eq 717, 3) := by decide +kernel
theorem d_law_861 : decode code 861 = .ok (.iconst 0, 1) := by decide +kernel
theorem d_law_862 : decode code 862 = .ok (.ireturn, 1) := by decide +kernel
theorem d_law_863 : decode code 863 = .ok (.aload_n 1, 1) := by decide +kernel
theorem d_law_864 : decode code 864 = .ok (.aload_n 0, 1) := by decide +kernel
theorem d_law_865 : decode code 865 = .ok (.iload_n 3, 1) := by decide +kernel
theorem d_law_866 : decode code 866 = .ok (.iconst 1, 1) := by decide +kernel
theorem d_law_867 : decode code 867 = .ok (.iadd, 1) := by decide +kernel
theorem d_law_868 : decode code 868 = .ok (.iaload, 1) := by decide +kernel
theorem d_law_869 : decode code 869 = .ok (.aload_n 0, 1) := by decide +kernel
theorem d_law_870 : decode code 870 = .ok (.iload_n 3, 1) := by decide +kernel
theorem d_law_871 : decode code 871 = .ok (.iconst 2, 1) := by decide +kernel
theorem d_law_872 : decode code 872 = .ok (.iadd, 1) := by decide +kernel
theorem d_law_873 : decode code 873 = .ok (.iaload, 1) := by decide +kernel
theorem d_law_874 : decode code 874 = .ok (.invokevirtual 101, 3) := by decide +kernel
theorem d_law_877 : decode code 877 = .ok (.aload_n 2, 1) := by decide +kernel
theorem d_law_878 : decode code 878 = .ok (.aload_n 0, 1) := by decide +kernel
theorem d_law_879 : decode code 879 = .ok (.iload_n 3, 1) := by decide +kernel
theorem d_law_880 : decode code 880 = .ok (.iconst 1, 1) := by decide +kernel
theorem d_law_881 : decode code 881 = .ok (.iadd, 1) := by decide +kernel
theorem d_law_882 : decode code 882 = .ok (.iaload, 1) := by decide +kernel
theorem d_law_883 : decode code 883 = .ok (.aload_n 0, 1) := by decide +kernel
theorem d_law_884 : decode code 884 = .ok (.iload_n 3, 1) := by decide +kernel
theorem d_law_885 : decode code 885 = .ok (.iconst 2, 1) := by decide +kernel
theorem d_law_886 : decode code 886 = .ok (.iadd, 1) := by decide +kernel
theorem d_law_887 : decode code 887 = .ok (.iaload, 1) := by decide +kernel
theorem d_law_888 : decode code 888 = .ok (.invokevirtual 104, 3) := by decide +kernel
theorem d_law_891 : decode code 891 = .ok (.if_icmp .eq 684, 3) := by decide +kernel
theorem d_law_894 : decode code 894 = .ok (.iconst 0, 1) := by decide +kernel
theorem d_law_895 : decode code 895 = .ok (.ireturn, 1) := by decide +kernel
theorem d_law_896 : decode code 896 = .ok (.aload_n 1, 1) := by decide +kernel
theorem d_law_897 : decode code 897 = .ok (.aload_n 0, 1) := by decide +kernel
theorem d_law_898 : decode code 898 = .ok (.iload_n 3, 1) := by decide +kernel
theorem d_law_899 : decode code 899 = .ok (.iconst 1, 1) := by decide +kernel
theorem d_law_900 : decode code 900 = .ok (.iadd, 1) := by decide +kernel
theorem d_law_901 : decode code 901 = .ok (.iaload, 1) := by decide +kernel
theorem d_law_902 : decode code 902 = .ok (.aload_n 0, 1) := by decide +kernel
theorem d_law_903 : decode code 903 = .ok (.iload_n 3, 1) := by decide +kernel
theorem d_law_904 : decode code 904 = .ok (.iconst 2, 1) := by decide +kernel
theorem d_law_905 : decode code 905 = .ok (.iadd, 1) := by decide +kernel
theorem d_law_906 : decode code 906 = .ok (.iaload, 1) := by decide +kernel
theorem d_law_907 : decode code 907 = .ok (.invokevirtual 105, 3) := by decide +kernel
theorem d_law_910 : decode code 910 = .ok (.aload_n 2, 1) := by decide +kernel
theorem d_law_911 : decode code 911 = .ok (.aload_n 0, 1) := by decide +kernel
theorem d_law_912 : decode code 912 = .ok (.iload_n 3, 1) := by decide +kernel
theorem d_law_913 : decode code 913 = .ok (.iconst 1, 1) := by decide +kernel
theorem d_law_914 : decode code 914 = .ok (.iadd, 1) := by decide +kernel
theorem d_law_915 : decode code 915 = .ok (.iaload, 1) := by decide +kernel
theorem d_law_916 : decode code 916 = .ok (.aload_n 0, 1) := by decide +kernel
theorem d_law_917 : decode code 917 = .ok (.iload_n 3, 1) := by decide +kernel
theorem d_law_918 : decode code 918 = .ok (.iconst 2, 1) := by decide +kernel
theorem d_law_919 : decode code 919 = .ok (.iadd, 1) := by decide +kernel
theorem d_law_920 : decode code 920 = .ok (.iaload, 1) := by decide +kernel
theorem d_law_921 : decode code 921 = .ok (.invokevirtual 108, 3) := by decide +kernel
theorem d_law_924 : decode code 924 = .ok (.if_icmp .eq 651, 3) := by decide +kernel
theorem d_law_927 : decode code 927 = .ok (.iconst 0, 1) := by decide +kernel
theorem d_law_928 : decode code 928 = .ok (.ireturn, 1) := by decide +kernel
theorem d_law_929 : decode code 929 = .ok (.aload_n 1, 1) := by decide +kernel
theorem d_law_930 : decode code 930 = .ok (.invokevirtual 109, 3) := by decide +kernel
theorem d_law_933 : decode code 933 = .ok (.aload_n 2, 1) := by decide +kernel
theorem d_law_934 : decode code 934 = .ok (.invokevirtual 112, 3) := by decide +kernel
theorem d_law_937 : decode code 937 = .ok (.if_icmp .eq 638, 3) := by decide +kernel
theorem d_law_940 : decode code 940 = .ok (.iconst 0, 1) := by decide +kernel
theorem d_law_941 : decode code 941 = .ok (.ireturn, 1) := by decide +kernel
theorem d_law_942 : decode code 942 = .ok (.aload_n 1, 1) := by decide +kernel
theorem d_law_943 : decode code 943 = .ok (.aload_n 0, 1) := by decide +kernel
theorem d_law_944 : decode code 944 = .ok (.iload_n 3, 1) := by decide +kernel
theorem d_law_945 : decode code 945 = .ok (.iconst 1, 1) := by decide +kernel
theorem d_law_946 : decode code 946 = .ok (.iadd, 1) := by decide +kernel
theorem d_law_947 : decode code 947 = .ok (.iaload, 1) := by decide +kernel
theorem d_law_948 : decode code 948 = .ok (.invokevirtual 113, 3) := by decide +kernel
theorem d_law_951 : decode code 951 = .ok (.aload_n 2, 1) := by decide +kernel
theorem d_law_952 : decode code 952 = .ok (.aload_n 0, 1) := by decide +kernel
theorem d_law_953 : decode code 953 = .ok (.iload_n 3, 1) := by decide +kernel
theorem d_law_954 : decode code 954 = .ok (.iconst 1, 1) := by decide +kernel
theorem d_law_955 : decode code 955 = .ok (.iadd, 1) := by decide +kernel
theorem d_law_956 : decode code 956 = .ok (.iaload, 1) := by decide +kernel
theorem d_law_957 : decode code 957 = .ok (.invokevirtual 116, 3) := by decide +kernel
theorem d_law_960 : decode code 960 = .ok (.if_icmp .eq 615, 3) := by decide +kernel
theorem d_law_963 : decode code 963 = .ok (.iconst 0, 1) := by decide +kernel
theorem d_law_964 : decode code 964 = .ok (.ireturn, 1) := by decide +kernel
theorem d_law_965 : decode code 965 = .ok (.aload_n 1, 1) := by decide +kernel
theorem d_law_966 : decode code 966 = .ok (.invokevirtual 117, 3) := by decide +kernel
theorem d_law_969 : decode code 969 = .ok (.aload_n 2, 1) := by decide +kernel
theorem d_law_970 : decode code 970 = .ok (.invokevirtual 120, 3) := by decide +kernel
theorem d_law_973 : decode code 973 = .ok (.if_icmp .eq 602, 3) := by decide +kernel
theorem d_law_976 : decode code 976 = .ok (.iconst 0, 1) := by decide +kernel
theorem d_law_977 : decode code 977 = .ok (.ireturn, 1) := by decide +kernel
theorem d_law_978 : decode code 978 = .ok (.aload_n 1, 1) := by decide +kernel
theorem d_law_979 : decode code 979 = .ok (.aload_n 0, 1) := by decide +kernel
theorem d_law_980 : decode code 980 = .ok (.iload_n 3, 1) := by decide +kernel
theorem d_law_981 : decode code 981 = .ok (.iconst 1, 1) := by decide +kernel
theorem d_law_982 : decode code 982 = .ok (.iadd, 1) := by decide +kernel
theorem d_law_983 : decode code 983 = .ok (.iaload, 1) := by decide +kernel
theorem d_law_984 : decode code 984 = .ok (.invokevirtual 121, 3) := by decide +kernel
theorem d_law_987 : decode code 987 = .ok (.aload_n 2, 1) := by decide +kernel
theorem d_law_988 : decode code 988 = .ok (.aload_n 0, 1) := by decide +kernel
theorem d_law_989 : decode code 989 = .ok (.iload_n 3, 1) := by decide +kernel
theorem d_law_990 : decode code 990 = .ok (.iconst 1, 1) := by decide +kernel
theorem d_law_991 : decode code 991 = .ok (.iadd, 1) := by decide +kernel
theorem d_law_992 : decode code 992 = .ok (.iaload, 1) := by decide +kernel
theorem d_law_993 : decode code 993 = .ok (.invokevirtual 124, 3) := by decide +kernel
theorem d_law_996 : decode code 996 = .ok (.if_icmp .eq 579, 3) := by decide +kernel
theorem d_law_999 : decode code 999 = .ok (.iconst 0, 1) := by decide +kernel
theorem d_law_1000 : decode code 1000 = .ok (.ireturn, 1) := by decide +kernel
theorem d_law_1001 : decode code 1001 = .ok (.aload_n 1, 1) := by decide +kernel
theorem d_law_1002 : decode code 1002 = .ok (.aload_n 0, 1) := by decide +kernel
theorem d_law_1003 : decode code 1003 = .ok (.iload_n 3, 1) := by decide +kernel
theorem d_law_1004 : decode code 1004 = .ok (.iconst 1, 1) := by decide +kernel
theorem d_law_1005 : decode code 1005 = .ok (.iadd, 1) := by decide +kernel
theorem d_law_1006 : decode code 1006 = .ok (.iaload, 1) := by decide +kernel
theorem d_law_1007 : decode code 1007 = .ok (.invokevirtual 125, 3) := by decide +kernel
theorem d_law_1010 : decode code 1010 = .ok (.aload_n 2, 1) := by decide +kernel
theorem d_law_1011 : decode code 1011 = .ok (.aload_n 0, 1) := by decide +kernel
theorem d_law_1012 : decode code 1012 = .ok (.iload_n 3, 1) := by decide +kernel
theorem d_law_1013 : decode code 1013 = .ok (.iconst 1, 1) := by decide +kernel
theorem d_law_1014 : decode code 1014 = .ok (.iadd, 1) := by decide +kernel
theorem d_law_1015 : decode code 1015 = .ok (.iaload, 1) := by decide +kernel
theorem d_law_1016 : decode code 1016 = .ok (.invokevirtual 128, 3) := by decide +kernel
theorem d_law_1019 : decode code 1019 = .ok (.if_icmp .eq 556, 3) := by decide +kernel
theorem d_law_1022 : decode code 1022 = .ok (.iconst 0, 1) := by decide +kernel
theorem d_law_1023 : decode code 1023 = .ok (.ireturn, 1) := by decide +kernel
theorem d_law_1024 : decode code 1024 = .ok (.aload_n 1, 1) := by decide +kernel
theorem d_law_1025 : decode code 1025 = .ok (.aload_n 0, 1) := by decide +kernel
theorem d_law_1026 : decode code 1026 = .ok (.iload_n 3, 1) := by decide +kernel
theorem d_law_1027 : decode code 1027 = .ok (.iconst 1, 1) := by decide +kernel
theorem d_law_1028 : decode code 1028 = .ok (.iadd, 1) := by decide +kernel
theorem d_law_1029 : decode code 1029 = .ok (.iaload, 1) := by decide +kernel
theorem d_law_1030 : decode code 1030 = .ok (.aload_n 0, 1) := by decide +kernel
theorem d_law_1031 : decode code 1031 = .ok (.iload_n 3, 1) := by decide +kernel
theorem d_law_1032 : decode code 1032 = .ok (.iconst 2, 1) := by decide +kernel
theorem d_law_1033 : decode code 1033 = .ok (.iadd, 1) := by decide +kernel
theorem d_law_1034 : decode code 1034 = .ok (.iaload, 1) := by decide +kernel
theorem d_law_1035 : decode code 1035 = .ok (.invokevirtual 129, 3) := by decide +kernel
theorem d_law_1038 : decode code 1038 = .ok (.aload_n 2, 1) := by decide +kernel
theorem d_law_1039 : decode code 1039 = .ok (.aload_n 0, 1) := by decide +kernel
theorem d_law_1040 : decode code 1040 = .ok (.iload_n 3, 1) := by decide +kernel
theorem d_law_1041 : decode code 1041 = .ok (.iconst 1, 1) := by decide +kernel
theorem d_law_1042 : decode code 1042 = .ok (.iadd, 1) := by decide +kernel
theorem d_law_1043 : decode code 1043 = .ok (.iaload, 1) := by decide +kernel
theorem d_law_1044 : decode code 1044 = .ok (.aload_n 0, 1) := by decide +kernel
theorem d_law_1045 : decode code 1045 = .ok (.iload_n 3, 1) := by decide +kernel
theorem d_law_1046 : decode code 1046 = .ok (.iconst 2, 1) := by decide +kernel
theorem d_law_1047 : decode code 1047 = .ok (.iadd, 1) := by decide +kernel
theorem d_law_1048 : decode code 1048 = .ok (.iaload, 1) := by decide +kernel
theorem d_law_1049 : decode code 1049 = .ok (.invokevirtual 132, 3) := by decide +kernel
theorem d_law_1052 : decode code 1052 = .ok (.if_icmp .eq 523, 3) := by decide +kernel
theorem d_law_1055 : decode code 1055 = .ok (.iconst 0, 1) := by decide +kernel
theorem d_law_1056 : decode code 1056 = .ok (.ireturn, 1) := by decide +kernel
theorem d_law_1057 : decode code 1057 = .ok (.aload_n 1, 1) := by decide +kernel
theorem d_law_1058 : decode code 1058 = .ok (.aload_n 0, 1) := by decide +kernel
theorem d_law_1059 : decode code 1059 = .ok (.iload_n 3, 1) := by decide +kernel
theorem d_law_1060 : decode code 1060 = .ok (.iconst 1, 1) := by decide +kernel
theorem d_law_1061 : decode code 1061 = .ok (.iadd, 1) := by decide +kernel
theorem d_law_1062 : decode code 1062 = .ok (.iaload, 1) := by decide +kernel
theorem d_law_1063 : decode code 1063 = .ok (.aload_n 0, 1) := by decide +kernel
theorem d_law_1064 : decode code 1064 = .ok (.iload_n 3, 1) := by decide +kernel
theorem d_law_1065 : decode code 1065 = .ok (.iconst 2, 1) := by decide +kernel
theorem d_law_1066 : decode code 1066 = .ok (.iadd, 1) := by decide +kernel
theorem d_law_1067 : decode code 1067 = .ok (.iaload, 1) := by decide +kernel
theorem d_law_1068 : decode code 1068 = .ok (.invokevirtual 133, 3) := by decide +kernel
theorem d_law_1071 : decode code 1071 = .ok (.aload_n 2, 1) := by decide +kernel
theorem d_law_1072 : decode code 1072 = .ok (.aload_n 0, 1) := by decide +kernel
theorem d_law_1073 : decode code 1073 = .ok (.iload_n 3, 1) := by decide +kernel
theorem d_law_1074 : decode code 1074 = .ok (.iconst 1, 1) := by decide +kernel
theorem d_law_1075 : decode code 1075 = .ok (.iadd, 1) := by decide +kernel
theorem d_law_1076 : decode code 1076 = .ok (.iaload, 1) := by decide +kernel
theorem d_law_1077 : decode code 1077 = .ok (.aload_n 0, 1) := by decide +kernel
theorem d_law_1078 : decode code 1078 = .ok (.iload_n 3, 1) := by decide +kernel
theorem d_law_1079 : decode code 1079 = .ok (.iconst 2, 1) := by decide +kernel
theorem d_law_1080 : decode code 1080 = .ok (.iadd, 1) := by decide +kernel
theorem d_law_1081 : decode code 1081 = .ok (.iaload, 1) := by decide +kernel
theorem d_law_1082 : decode code 1082 = .ok (.invokevirtual 136, 3) := by decide +kernel
theorem d_law_1085 : decode code 1085 = .ok (.if_icmp .eq 490, 3) := by decide +kernel
theorem d_law_1088 : decode code 1088 = .ok (.iconst 0, 1) := by decide +kernel
theorem d_law_1089 : decode code 1089 = .ok (.ireturn, 1) := by decide +kernel
theorem d_law_1090 : decode code 1090 = .ok (.aload_n 1, 1) := by decide +kernel
theorem d_law_1091 : decode code 1091 = .ok (.aload_n 0, 1) := by decide +kernel
theorem d_law_1092 : decode code 1092 = .ok (.iload_n 3, 1) := by decide +kernel
theorem d_law_1093 : decode code 1093 = .ok (.iconst 1, 1) := by decide +kernel
theorem d_law_1094 : decode code 1094 = .ok (.iadd, 1) := by decide +kernel
theorem d_law_1095 : decode code 1095 = .ok (.iaload, 1) := by decide +kernel
theorem d_law_1096 : decode code 1096 = .ok (.invokevirtual 137, 3) := by decide +kernel
theorem d_law_1099 : decode code 1099 = .ok (.aload_n 2, 1) := by decide +kernel
theorem d_law_1100 : decode code 1100 = .ok (.aload_n 0, 1) := by decide +kernel
theorem d_law_1101 : decode code 1101 = .ok (.iload_n 3, 1) := by decide +kernel
theorem d_law_1102 : decode code 1102 = .ok (.iconst 1, 1) := by decide +kernel
theorem d_law_1103 : decode code 1103 = .ok (.iadd, 1) := by decide +kernel
theorem d_law_1104 : decode code 1104 = .ok (.iaload, 1) := by decide +kernel
theorem d_law_1105 : decode code 1105 = .ok (.invokevirtual 140, 3) := by decide +kernel
theorem d_law_1108 : decode code 1108 = .ok (.if_icmp .eq 467, 3) := by decide +kernel
theorem d_law_1111 : decode code 1111 = .ok (.iconst 0, 1) := by decide +kernel
theorem d_law_1112 : decode code 1112 = .ok (.ireturn, 1) := by decide +kernel
theorem d_law_1113 : decode code 1113 = .ok (.aload_n 1, 1) := by decide +kernel
theorem d_law_1114 : decode code 1114 = .ok (.aload_n 0, 1) := by decide +kernel
theorem d_law_1115 : decode code 1115 = .ok (.iload_n 3, 1) := by decide +kernel
theorem d_law_1116 : decode code 1116 = .ok (.iconst 1, 1) := by decide +kernel
theorem d_law_1117 : decode code 1117 = .ok (.iadd, 1) := by decide +kernel
theorem d_law_1118 : decode code 1118 = .ok (.iaload, 1) := by decide +kernel
theorem d_law_1119 : decode code 1119 = .ok (.aload_n 0, 1) := by decide +kernel
theorem d_law_1120 : decode code 1120 = .ok (.iload_n 3, 1) := by decide +kernel
theorem d_law_1121 : decode code 1121 = .ok (.iconst 2, 1) := by decide +kernel
theorem d_law_1122 : decode code 1122 = .ok (.iadd, 1) := by decide +kernel
theorem d_law_1123 : decode code 1123 = .ok (.iaload, 1) := by decide +kernel
theorem d_law_1124 : decode code 1124 = .ok (.invokevirtual 141, 3) := by decide +kernel
theorem d_law_1127 : decode code 1127 = .ok (.aload_n 2, 1) := by decide +kernel
theorem d_law_1128 : decode code 1128 = .ok (.aload_n 0, 1) := by decide +kernel
theorem d_law_1129 : decode code 1129 = .ok (.iload_n 3, 1) := by decide +kernel
theorem d_law_1130 : decode code 1130 = .ok (.iconst 1, 1) := by decide +kernel
theorem d_law_1131 : decode code 1131 = .ok (.iadd, 1) := by decide +kernel
theorem d_law_1132 : decode code 1132 = .ok (.iaload, 1) := by decide +kernel
theorem d_law_1133 : decode code 1133 = .ok (.aload_n 0, 1) := by decide +kernel
theorem d_law_1134 : decode code 1134 = .ok (.iload_n 3, 1) := by decide +kernel
theorem d_law_1135 : decode code 1135 = .ok (.iconst 2, 1) := by decide +kernel
theorem d_law_1136 : decode code 1136 = .ok (.iadd, 1) := by decide +kernel
theorem d_law_1137 : decode code 1137 = .ok (.iaload, 1) := by decide +kernel
theorem d_law_1138 : decode code 1138 = .ok (.invokevirtual 145, 3) := by decide +kernel
theorem d_law_1141 : decode code 1141 = .ok (.lcmp, 1) := by decide +kernel
theorem d_law_1142 : decode code 1142 = .ok (.ifCond .eq 433, 3) := by decide +kernel
theorem d_law_1145 : decode code 1145 = .ok (.iconst 0, 1) := by decide +kernel
theorem d_law_1146 : decode code 1146 = .ok (.ireturn, 1) := by decide +kernel
theorem d_law_1147 : decode code 1147 = .ok (.aload_n 1, 1) := by decide +kernel
theorem d_law_1148 : decode code 1148 = .ok (.aload_n 0, 1) := by decide +kernel
theorem d_law_1149 : decode code 1149 = .ok (.iload_n 3, 1) := by decide +kernel
theorem d_law_1150 : decode code 1150 = .ok (.iconst 1, 1) := by decide +kernel
theorem d_law_1151 : decode code 1151 = .ok (.iadd, 1) := by decide +kernel
theorem d_law_1152 : decode code 1152 = .ok (.iaload, 1) := by decide +kernel
theorem d_law_1153 : decode code 1153 = .ok (.invokevirtual 146, 3) := by decide +kernel
theorem d_law_1156 : decode code 1156 = .ok (.aload_n 2, 1) := by decide +kernel
theorem d_law_1157 : decode code 1157 = .ok (.aload_n 0, 1) := by decide +kernel
theorem d_law_1158 : decode code 1158 = .ok (.iload_n 3, 1) := by decide +kernel
theorem d_law_1159 : decode code 1159 = .ok (.iconst 1, 1) := by decide +kernel
theorem d_law_1160 : decode code 1160 = .ok (.iadd, 1) := by decide +kernel
theorem d_law_1161 : decode code 1161 = .ok (.iaload, 1) := by decide +kernel
theorem d_law_1162 : decode code 1162 = .ok (.invokevirtual 149, 3) := by decide +kernel
theorem d_law_1165 : decode code 1165 = .ok (.if_icmp .eq 410, 3) := by decide +kernel
theorem d_law_1168 : decode code 1168 = .ok (.iconst 0, 1) := by decide +kernel
theorem d_law_1169 : decode code 1169 = .ok (.ireturn, 1) := by decide +kernel
theorem d_law_1170 : decode code 1170 = .ok (.aload_n 1, 1) := by decide +kernel
theorem d_law_1171 : decode code 1171 = .ok (.aload_n 0, 1) := by decide +kernel
theorem d_law_1172 : decode code 1172 = .ok (.iload_n 3, 1) := by decide +kernel
theorem d_law_1173 : decode code 1173 = .ok (.iconst 1, 1) := by decide +kernel
theorem d_law_1174 : decode code 1174 = .ok (.iadd, 1) := by decide +kernel
theorem d_law_1175 : decode code 1175 = .ok (.iaload, 1) := by decide +kernel
theorem d_law_1176 : decode code 1176 = .ok (.aload_n 0, 1) := by decide +kernel
theorem d_law_1177 : decode code 1177 = .ok (.iload_n 3, 1) := by decide +kernel
theorem d_law_1178 : decode code 1178 = .ok (.iconst 2, 1) := by decide +kernel
theorem d_law_1179 : decode code 1179 = .ok (.iadd, 1) := by decide +kernel
theorem d_law_1180 : decode code 1180 = .ok (.iaload, 1) := by decide +kernel
theorem d_law_1181 : decode code 1181 = .ok (.invokevirtual 150, 3) := by decide +kernel
theorem d_law_1184 : decode code 1184 = .ok (.aload_n 2, 1) := by decide +kernel
theorem d_law_1185 : decode code 1185 = .ok (.aload_n 0, 1) := by decide +kernel
theorem d_law_1186 : decode code 1186 = .ok (.iload_n 3, 1) := by decide +kernel
theorem d_law_1187 : decode code 1187 = .ok (.iconst 1, 1) := by decide +kernel
theorem d_law_1188 : decode code 1188 = .ok (.iadd, 1) := by decide +kernel
theorem d_law_1189 : decode code 1189 = .ok (.iaload, 1) := by decide +kernel
theorem d_law_1190 : decode code 1190 = .ok (.aload_n 0, 1) := by decide +kernel
theorem d_law_1191 : decode code 1191 = .ok (.iload_n 3, 1) := by decide +kernel
theorem d_law_1192 : decode code 1192 = .ok (.iconst 2, 1) := by decide +kernel
theorem d_law_1193 : decode code 1193 = .ok (.iadd, 1) := by decide +kernel
theorem d_law_1194 : decode code 1194 = .ok (.iaload, 1) := by decide +kernel
theorem d_law_1195 : decode code 1195 = .ok (.invokevirtual 153, 3) := by decide +kernel
theorem d_law_1198 : decode code 1198 = .ok (.if_icmp .eq 377, 3) := by decide +kernel
theorem d_law_1201 : decode code 1201 = .ok (.iconst 0, 1) := by decide +kernel
theorem d_law_1202 : decode code 1202 = .ok (.ireturn, 1) := by decide +kernel
theorem d_law_1203 : decode code 1203 = .ok (.aload_n 1, 1) := by decide +kernel
theorem d_law_1204 : decode code 1204 = .ok (.invokevirtual 154, 3) := by decide +kernel
theorem d_law_1207 : decode code 1207 = .ok (.aload_n 2, 1) := by decide +kernel
theorem d_law_1208 : decode code 1208 = .ok (.invokevirtual 157, 3) := by decide +kernel
theorem d_law_1211 : decode code 1211 = .ok (.if_icmp .eq 364, 3) := by decide +kernel
theorem d_law_1214 : decode code 1214 = .ok (.iconst 0, 1) := by decide +kernel
theorem d_law_1215 : decode code 1215 = .ok (.ireturn, 1) := by decide +kernel
theorem d_law_1216 : decode code 1216 = .ok (.aload_n 1, 1) := by decide +kernel
theorem d_law_1217 : decode code 1217 = .ok (.invokevirtual 158, 3) := by decide +kernel
theorem d_law_1220 : decode code 1220 = .ok (.aload_n 2, 1) := by decide +kernel
theorem d_law_1221 : decode code 1221 = .ok (.invokevirtual 161, 3) := by decide +kernel
theorem d_law_1224 : decode code 1224 = .ok (.if_icmp .eq 351, 3) := by decide +kernel
theorem d_law_1227 : decode code 1227 = .ok (.iconst 0, 1) := by decide +kernel
theorem d_law_1228 : decode code 1228 = .ok (.ireturn, 1) := by decide +kernel
theorem d_law_1229 : decode code 1229 = .ok (.aload_n 1, 1) := by decide +kernel
theorem d_law_1230 : decode code 1230 = .ok (.aload_n 0, 1) := by decide +kernel
theorem d_law_1231 : decode code 1231 = .ok (.iload_n 3, 1) := by decide +kernel
theorem d_law_1232 : decode code 1232 = .ok (.iconst 1, 1) := by decide +kernel
theorem d_law_1233 : decode code 1233 = .ok (.iadd, 1) := by decide +kernel
theorem d_law_1234 : decode code 1234 = .ok (.iaload, 1) := by decide +kernel
theorem d_law_1235 : decode code 1235 = .ok (.aload_n 0, 1) := by decide +kernel
theorem d_law_1236 : decode code 1236 = .ok (.iload_n 3, 1) := by decide +kernel
theorem d_law_1237 : decode code 1237 = .ok (.iconst 2, 1) := by decide +kernel
theorem d_law_1238 : decode code 1238 = .ok (.iadd, 1) := by decide +kernel
theorem d_law_1239 : decode code 1239 = .ok (.iaload, 1) := by decide +kernel
theorem d_law_1240 : decode code 1240 = .ok (.invokevirtual 162, 3) := by decide +kernel
theorem d_law_1243 : decode code 1243 = .ok (.aload_n 2, 1) := by decide +kernel
theorem d_law_1244 : decode code 1244 = .ok (.aload_n 0, 1) := by decide +kernel
theorem d_law_1245 : decode code 1245 = .ok (.iload_n 3, 1) := by decide +kernel
theorem d_law_1246 : decode code 1246 = .ok (.iconst 1, 1) := by decide +kernel
theorem d_law_1247 : decode code 1247 = .ok (.iadd, 1) := by decide +kernel
theorem d_law_1248 : decode code 1248 = .ok (.iaload, 1) := by decide +kernel
theorem d_law_1249 : decode code 1249 = .ok (.aload_n 0, 1) := by decide +kernel
theorem d_law_1250 : decode code 1250 = .ok (.iload_n 3, 1) := by decide +kernel
theorem d_law_1251 : decode code 1251 = .ok (.iconst 2, 1) := by decide +kernel
theorem d_law_1252 : decode code 1252 = .ok (.iadd, 1) := by decide +kernel
theorem d_law_1253 : decode code 1253 = .ok (.iaload, 1) := by decide +kernel
theorem d_law_1254 : decode code 1254 = .ok (.invokevirtual 165, 3) := by decide +kernel
theorem d_law_1257 : decode code 1257 = .ok (.if_icmp .eq 318, 3) := by decide +kernel
theorem d_law_1260 : decode code 1260 = .ok (.iconst 0, 1) := by decide +kernel
theorem d_law_1261 : decode code 1261 = .ok (.ireturn, 1) := by decide +kernel
theorem d_law_1262 : decode code 1262 = .ok (.aload_n 1, 1) := by decide +kernel
theorem d_law_1263 : decode code 1263 = .ok (.aload_n 0, 1) := by decide +kernel
theorem d_law_1264 : decode code 1264 = .ok (.iload_n 3, 1) := by decide +kernel
theorem d_law_1265 : decode code 1265 = .ok (.iconst 1, 1) := by decide +kernel
theorem d_law_1266 : decode code 1266 = .ok (.iadd, 1) := by decide +kernel
theorem d_law_1267 : decode code 1267 = .ok (.iaload, 1) := by decide +kernel
theorem d_law_1268 : decode code 1268 = .ok (.aload_n 0, 1) := by decide +kernel
theorem d_law_1269 : decode code 1269 = .ok (.iload_n 3, 1) := by decide +kernel
theorem d_law_1270 : decode code 1270 = .ok (.iconst 2, 1) := by decide +kernel
theorem d_law_1271 : decode code 1271 = .ok (.iadd, 1) := by decide +kernel
theorem d_law_1272 : decode code 1272 = .ok (.iaload, 1) := by decide +kernel
theorem d_law_1273 : decode code 1273 = .ok (.invokevirtual 166, 3) := by decide +kernel
theorem d_law_1276 : decode code 1276 = .ok (.aload_n 2, 1) := by decide +kernel
theorem d_law_1277 : decode code 1277 = .ok (.aload_n 0, 1) := by decide +kernel
theorem d_law_1278 : decode code 1278 = .ok (.iload_n 3, 1) := by decide +kernel
theorem d_law_1279 : decode code 1279 = .ok (.iconst 1, 1) := by decide +kernel
theorem d_law_1280 : decode code 1280 = .ok (.iadd, 1) := by decide +kernel
theorem d_law_1281 : decode code 1281 = .ok (.iaload, 1) := by decide +kernel
theorem d_law_1282 : decode code 1282 = .ok (.aload_n 0, 1) := by decide +kernel
theorem d_law_1283 : decode code 1283 = .ok (.iload_n 3, 1) := by decide +kernel
theorem d_law_1284 : decode code 1284 = .ok (.iconst 2, 1) := by decide +kernel
theorem d_law_1285 : decode code 1285 = .ok (.iadd, 1) := by decide +kernel
theorem d_law_1286 : decode code 1286 = .ok (.iaload, 1) := by decide +kernel
theorem d_law_1287 : decode code 1287 = .ok (.invokevirtual 169, 3) := by decide +kernel
theorem d_law_1290 : decode code 1290 = .ok (.if_icmp .eq 285, 3) := by decide +kernel
theorem d_law_1293 : decode code 1293 = .ok (.iconst 0, 1) := by decide +kernel
theorem d_law_1294 : decode code 1294 = .ok (.ireturn, 1) := by decide +kernel
theorem d_law_1295 : decode code 1295 = .ok (.aload_n 1, 1) := by decide +kernel
theorem d_law_1296 : decode code 1296 = .ok (.aload_n 0, 1) := by decide +kernel
theorem d_law_1297 : decode code 1297 = .ok (.iload_n 3, 1) := by decide +kernel
theorem d_law_1298 : decode code 1298 = .ok (.iconst 1, 1) := by decide +kernel
theorem d_law_1299 : decode code 1299 = .ok (.iadd, 1) := by decide +kernel
theorem d_law_1300 : decode code 1300 = .ok (.iaload, 1) := by decide +kernel
theorem d_law_1301 : decode code 1301 = .ok (.aload_n 0, 1) := by decide +kernel
theorem d_law_1302 : decode code 1302 = .ok (.iload_n 3, 1) := by decide +kernel
theorem d_law_1303 : decode code 1303 = .ok (.iconst 2, 1) := by decide +kernel
theorem d_law_1304 : decode code 1304 = .ok (.iadd, 1) := by decide +kernel
theorem d_law_1305 : decode code 1305 = .ok (.iaload, 1) := by decide +kernel
theorem d_law_1306 : decode code 1306 = .ok (.aload_n 0, 1) := by decide +kernel
theorem d_law_1307 : decode code 1307 = .ok (.iload_n 3, 1) := by decide +kernel
theorem d_law_1308 : decode code 1308 = .ok (.iconst 3, 1) := by decide +kernel
theorem d_law_1309 : decode code 1309 = .ok (.iadd, 1) := by decide +kernel
theorem d_law_1310 : decode code 1310 = .ok (.iaload, 1) := by decide +kernel
theorem d_law_1311 : decode code 1311 = .ok (.invokevirtual 170, 3) := by decide +kernel
theorem d_law_1314 : decode code 1314 = .ok (.aload_n 2, 1) := by decide +kernel
theorem d_law_1315 : decode code 1315 = .ok (.aload_n 0, 1) := by decide +kernel
theorem d_law_1316 : decode code 1316 = .ok (.iload_n 3, 1) := by decide +kernel
theorem d_law_1317 : decode code 1317 = .ok (.iconst 1, 1) := by decide +kernel
theorem d_law_1318 : decode code 1318 = .ok (.iadd, 1) := by decide +kernel
theorem d_law_1319 : decode code 1319 = .ok (.iaload, 1) := by decide +kernel
theorem d_law_1320 : decode code 1320 = .ok (.aload_n 0, 1) := by decide +kernel
theorem d_law_1321 : decode code 1321 = .ok (.iload_n 3, 1) := by decide +kernel
theorem d_law_1322 : decode code 1322 = .ok (.iconst 2, 1) := by decide +kernel
theorem d_law_1323 : decode code 1323 = .ok (.iadd, 1) := by decide +kernel
theorem d_law_1324 : decode code 1324 = .ok (.iaload, 1) := by decide +kernel
theorem d_law_1325 : decode code 1325 = .ok (.aload_n 0, 1) := by decide +kernel
theorem d_law_1326 : decode code 1326 = .ok (.iload_n 3, 1) := by decide +kernel
theorem d_law_1327 : decode code 1327 = .ok (.iconst 3, 1) := by decide +kernel
theorem d_law_1328 : decode code 1328 = .ok (.iadd, 1) := by decide +kernel
theorem d_law_1329 : decode code 1329 = .ok (.iaload, 1) := by decide +kernel
theorem d_law_1330 : decode code 1330 = .ok (.invokevirtual 173, 3) := by decide +kernel
theorem d_law_1333 : decode code 1333 = .ok (.if_icmp .eq 242, 3) := by decide +kernel
theorem d_law_1336 : decode code 1336 = .ok (.iconst 0, 1) := by decide +kernel
theorem d_law_1337 : decode code 1337 = .ok (.ireturn, 1) := by decide +kernel
theorem d_law_1338 : decode code 1338 = .ok (.aload_n 1, 1) := by decide +kernel
theorem d_law_1339 : decode code 1339 = .ok (.aload_n 0, 1) := by decide +kernel
theorem d_law_1340 : decode code 1340 = .ok (.iload_n 3, 1) := by decide +kernel
theorem d_law_1341 : decode code 1341 = .ok (.iconst 1, 1) := by decide +kernel
theorem d_law_1342 : decode code 1342 = .ok (.iadd, 1) := by decide +kernel
theorem d_law_1343 : decode code 1343 = .ok (.iaload, 1) := by decide +kernel
theorem d_law_1344 : decode code 1344 = .ok (.aload_n 0, 1) := by decide +kernel
theorem d_law_1345 : decode code 1345 = .ok (.iload_n 3, 1) := by decide +kernel
theorem d_law_1346 : decode code 1346 = .ok (.iconst 2, 1) := by decide +kernel
theorem d_law_1347 : decode code 1347 = .ok (.iadd, 1) := by decide +kernel
theorem d_law_1348 : decode code 1348 = .ok (.iaload, 1) := by decide +kernel
theorem d_law_1349 : decode code 1349 = .ok (.aload_n 0, 1) := by decide +kernel
theorem d_law_1350 : decode code 1350 = .ok (.iload_n 3, 1) := by decide +kernel
theorem d_law_1351 : decode code 1351 = .ok (.iconst 3, 1) := by decide +kernel
theorem d_law_1352 : decode code 1352 = .ok (.iadd, 1) := by decide +kernel
theorem d_law_1353 : decode code 1353 = .ok (.iaload, 1) := by decide +kernel
theorem d_law_1354 : decode code 1354 = .ok (.invokevirtual 174, 3) := by decide +kernel
theorem d_law_1357 : decode code 1357 = .ok (.aload_n 2, 1) := by decide +kernel
theorem d_law_1358 : decode code 1358 = .ok (.aload_n 0, 1) := by decide +kernel
theorem d_law_1359 : decode code 1359 = .ok (.iload_n 3, 1) := by decide +kernel
theorem d_law_1360 : decode code 1360 = .ok (.iconst 1, 1) := by decide +kernel
theorem d_law_1361 : decode code 1361 = .ok (.iadd, 1) := by decide +kernel
theorem d_law_1362 : decode code 1362 = .ok (.iaload, 1) := by decide +kernel
theorem d_law_1363 : decode code 1363 = .ok (.aload_n 0, 1) := by decide +kernel
theorem d_law_1364 : decode code 1364 = .ok (.iload_n 3, 1) := by decide +kernel
theorem d_law_1365 : decode code 1365 = .ok (.iconst 2, 1) := by decide +kernel
theorem d_law_1366 : decode code 1366 = .ok (.iadd, 1) := by decide +kernel
theorem d_law_1367 : decode code 1367 = .ok (.iaload, 1) := by decide +kernel
theorem d_law_1368 : decode code 1368 = .ok (.aload_n 0, 1) := by decide +kernel
theorem d_law_1369 : decode code 1369 = .ok (.iload_n 3, 1) := by decide +kernel
theorem d_law_1370 : decode code 1370 = .ok (.iconst 3, 1) := by decide +kernel
theorem d_law_1371 : decode code 1371 = .ok (.iadd, 1) := by decide +kernel
theorem d_law_1372 : decode code 1372 = .ok (.iaload, 1) := by decide +kernel
theorem d_law_1373 : decode code 1373 = .ok (.invokevirtual 177, 3) := by decide +kernel
theorem d_law_1376 : decode code 1376 = .ok (.if_icmp .eq 199, 3) := by decide +kernel
theorem d_law_1379 : decode code 1379 = .ok (.iconst 0, 1) := by decide +kernel
theorem d_law_1380 : decode code 1380 = .ok (.ireturn, 1) := by decide +kernel
theorem d_law_1381 : decode code 1381 = .ok (.aload_n 1, 1) := by decide +kernel
theorem d_law_1382 : decode code 1382 = .ok (.aload_n 0, 1) := by decide +kernel
theorem d_law_1383 : decode code 1383 = .ok (.iload_n 3, 1) := by decide +kernel
theorem d_law_1384 : decode code 1384 = .ok (.iconst 1, 1) := by decide +kernel
theorem d_law_1385 : decode code 1385 = .ok (.iadd, 1) := by decide +kernel
theorem d_law_1386 : decode code 1386 = .ok (.iaload, 1) := by decide +kernel
theorem d_law_1387 : decode code 1387 = .ok (.aload_n 0, 1) := by decide +kernel
theorem d_law_1388 : decode code 1388 = .ok (.iload_n 3, 1) := by decide +kernel
theorem d_law_1389 : decode code 1389 = .ok (.iconst 2, 1) := by decide +kernel
theorem d_law_1390 : decode code 1390 = .ok (.iadd, 1) := by decide +kernel
theorem d_law_1391 : decode code 1391 = .ok (.iaload, 1) := by decide +kernel
theorem d_law_1392 : decode code 1392 = .ok (.aload_n 0, 1) := by decide +kernel
theorem d_law_1393 : decode code 1393 = .ok (.iload_n 3, 1) := by decide +kernel
theorem d_law_1394 : decode code 1394 = .ok (.iconst 3, 1) := by decide +kernel
theorem d_law_1395 : decode code 1395 = .ok (.iadd, 1) := by decide +kernel
theorem d_law_1396 : decode code 1396 = .ok (.iaload, 1) := by decide +kernel
theorem d_law_1397 : decode code 1397 = .ok (.aload_n 0, 1) := by decide +kernel
theorem d_law_1398 : decode code 1398 = .ok (.iload_n 3, 1) := by decide +kernel
theorem d_law_1399 : decode code 1399 = .ok (.iconst 4, 1) := by decide +kernel
theorem d_law_1400 : decode code 1400 = .ok (.iadd, 1) := by decide +kernel
theorem d_law_1401 : decode code 1401 = .ok (.iaload, 1) := by decide +kernel
theorem d_law_1402 : decode code 1402 = .ok (.aload_n 0, 1) := by decide +kernel
theorem d_law_1403 : decode code 1403 = .ok (.iload_n 3, 1) := by decide +kernel
theorem d_law_1404 : decode code 1404 = .ok (.iconst 5, 1) := by decide +kernel
theorem d_law_1405 : decode code 1405 = .ok (.iadd, 1) := by decide +kernel
theorem d_law_1406 : decode code 1406 = .ok (.iaload, 1) := by decide +kernel
theorem d_law_1407 : decode code 1407 = .ok (.invokevirtual 178, 3) := by decide +kernel
theorem d_law_1410 : decode code 1410 = .ok (.aload_n 2, 1) := by decide +kernel
theorem d_law_1411 : decode code 1411 = .ok (.aload_n 0, 1) := by decide +kernel
theorem d_law_1412 : decode code 1412 = .ok (.iload_n 3, 1) := by decide +kernel
theorem d_law_1413 : decode code 1413 = .ok (.iconst 1, 1) := by decide +kernel
theorem d_law_1414 : decode code 1414 = .ok (.iadd, 1) := by decide +kernel
theorem d_law_1415 : decode code 1415 = .ok (.iaload, 1) := by decide +kernel
theorem d_law_1416 : decode code 1416 = .ok (.aload_n 0, 1) := by decide +kernel
theorem d_law_1417 : decode code 1417 = .ok (.iload_n 3, 1) := by decide +kernel
theorem d_law_1418 : decode code 1418 = .ok (.iconst 2, 1) := by decide +kernel
theorem d_law_1419 : decode code 1419 = .ok (.iadd, 1) := by decide +kernel
theorem d_law_1420 : decode code 1420 = .ok (.iaload, 1) := by decide +kernel
theorem d_law_1421 : decode code 1421 = .ok (.aload_n 0, 1) := by decide +kernel
theorem d_law_1422 : decode code 1422 = .ok (.iload_n 3, 1) := by decide +kernel
theorem d_law_1423 : decode code 1423 = .ok (.iconst 3, 1) := by decide +kernel
theorem d_law_1424 : decode code 1424 = .ok (.iadd, 1) := by decide +kernel
theorem d_law_1425 : decode code 1425 = .ok (.iaload, 1) := by decide +kernel
theorem d_law_1426 : decode code 1426 = .ok (.aload_n 0, 1) := by decide +kernel
theorem d_law_1427 : decode code 1427 = .ok (.iload_n 3, 1) := by decide +kernel
theorem d_law_1428 : decode code 1428 = .ok (.iconst 4, 1) := by decide +kernel
theorem d_law_1429 : decode code 1429 = .ok (.iadd, 1) := by decide +kernel
theorem d_law_1430 : decode code 1430 = .ok (.iaload, 1) := by decide +kernel
theorem d_law_1431 : decode code 1431 = .ok (.aload_n 0, 1) := by decide +kernel
theorem d_law_1432 : decode code 1432 = .ok (.iload_n 3, 1) := by decide +kernel
theorem d_law_1433 : decode code 1433 = .ok (.iconst 5, 1) := by decide +kernel
theorem d_law_1434 : decode code 1434 = .ok (.iadd, 1) := by decide +kernel
theorem d_law_1435 : decode code 1435 = .ok (.iaload, 1) := by decide +kernel
theorem d_law_1436 : decode code 1436 = .ok (.invokevirtual 182, 3) := by decide +kernel
theorem d_law_1439 : decode code 1439 = .ok (.if_icmp .eq 136, 3) := by decide +kernel
theorem d_law_1442 : decode code 1442 = .ok (.iconst 0, 1) := by decide +kernel
theorem d_law_1443 : decode code 1443 = .ok (.ireturn, 1) := by decide +kernel
theorem d_law_1444 : decode code 1444 = .ok (.aload_n 1, 1) := by decide +kernel
theorem d_law_1445 : decode code 1445 = .ok (.aload_n 0, 1) := by decide +kernel
theorem d_law_1446 : decode code 1446 = .ok (.iload_n 3, 1) := by decide +kernel
theorem d_law_1447 : decode code 1447 = .ok (.iconst 1, 1) := by decide +kernel
theorem d_law_1448 : decode code 1448 = .ok (.iadd, 1) := by decide +kernel
theorem d_law_1449 : decode code 1449 = .ok (.iaload, 1) := by decide +kernel
theorem d_law_1450 : decode code 1450 = .ok (.invokevirtual 183, 3) := by decide +kernel
theorem d_law_1453 : decode code 1453 = .ok (.aload_n 2, 1) := by decide +kernel
theorem d_law_1454 : decode code 1454 = .ok (.aload_n 0, 1) := by decide +kernel
theorem d_law_1455 : decode code 1455 = .ok (.iload_n 3, 1) := by decide +kernel
theorem d_law_1456 : decode code 1456 = .ok (.iconst 1, 1) := by decide +kernel
theorem d_law_1457 : decode code 1457 = .ok (.iadd, 1) := by decide +kernel
theorem d_law_1458 : decode code 1458 = .ok (.iaload, 1) := by decide +kernel
theorem d_law_1459 : decode code 1459 = .ok (.invokevirtual 186, 3) := by decide +kernel
theorem d_law_1462 : decode code 1462 = .ok (.if_icmp .eq 113, 3) := by decide +kernel
theorem d_law_1465 : decode code 1465 = .ok (.iconst 0, 1) := by decide +kernel
theorem d_law_1466 : decode code 1466 = .ok (.ireturn, 1) := by decide +kernel
theorem d_law_1467 : decode code 1467 = .ok (.aload_n 1, 1) := by decide +kernel
theorem d_law_1468 : decode code 1468 = .ok (.aload_n 0, 1) := by decide +kernel
theorem d_law_1469 : decode code 1469 = .ok (.iload_n 3, 1) := by decide +kernel
theorem d_law_1470 : decode code 1470 = .ok (.iconst 1, 1) := by decide +kernel
theorem d_law_1471 : decode code 1471 = .ok (.iadd, 1) := by decide +kernel
theorem d_law_1472 : decode code 1472 = .ok (.iaload, 1) := by decide +kernel
theorem d_law_1473 : decode code 1473 = .ok (.invokevirtual 187, 3) := by decide +kernel
theorem d_law_1476 : decode code 1476 = .ok (.aload_n 2, 1) := by decide +kernel
theorem d_law_1477 : decode code 1477 = .ok (.aload_n 0, 1) := by decide +kernel
theorem d_law_1478 : decode code 1478 = .ok (.iload_n 3, 1) := by decide +kernel
theorem d_law_1479 : decode code 1479 = .ok (.iconst 1, 1) := by decide +kernel
theorem d_law_1480 : decode code 1480 = .ok (.iadd, 1) := by decide +kernel
theorem d_law_1481 : decode code 1481 = .ok (.iaload, 1) := by decide +kernel
theorem d_law_1482 : decode code 1482 = .ok (.invokevirtual 190, 3) := by decide +kernel
theorem d_law_1485 : decode code 1485 = .ok (.if_icmp .eq 90, 3) := by decide +kernel
theorem d_law_1488 : decode code 1488 = .ok (.iconst 0, 1) := by decide +kernel
theorem d_law_1489 : decode code 1489 = .ok (.ireturn, 1) := by decide +kernel
theorem d_law_1490 : decode code 1490 = .ok (.aload_n 1, 1) := by decide +kernel
theorem d_law_1491 : decode code 1491 = .ok (.invokevirtual 191, 3) := by decide +kernel
theorem d_law_1494 : decode code 1494 = .ok (.aload_n 2, 1) := by decide +kernel
theorem d_law_1495 : decode code 1495 = .ok (.invokevirtual 194, 3) := by decide +kernel
theorem d_law_1498 : decode code 1498 = .ok (.if_icmp .eq 77, 3) := by decide +kernel
theorem d_law_1501 : decode code 1501 = .ok (.iconst 0, 1) := by decide +kernel
theorem d_law_1502 : decode code 1502 = .ok (.ireturn, 1) := by decide +kernel
theorem d_law_1503 : decode code 1503 = .ok (.aload_n 1, 1) := by decide +kernel
theorem d_law_1504 : decode code 1504 = .ok (.invokevirtual 195, 3) := by decide +kernel
theorem d_law_1507 : decode code 1507 = .ok (.aload_n 2, 1) := by decide +kernel
theorem d_law_1508 : decode code 1508 = .ok (.invokevirtual 198, 3) := by decide +kernel
theorem d_law_1511 : decode code 1511 = .ok (.if_icmp .eq 64, 3) := by decide +kernel
theorem d_law_1514 : decode code 1514 = .ok (.iconst 0, 1) := by decide +kernel
theorem d_law_1515 : decode code 1515 = .ok (.ireturn, 1) := by decide +kernel
theorem d_law_1516 : decode code 1516 = .ok (.aload_n 1, 1) := by decide +kernel
theorem d_law_1517 : decode code 1517 = .ok (.invokevirtual 199, 3) := by decide +kernel
theorem d_law_1520 : decode code 1520 = .ok (.aload_n 2, 1) := by decide +kernel
theorem d_law_1521 : decode code 1521 = .ok (.invokevirtual 202, 3) := by decide +kernel
theorem d_law_1524 : decode code 1524 = .ok (.if_icmp .eq 51, 3) := by decide +kernel
theorem d_law_1527 : decode code 1527 = .ok (.iconst 0, 1) := by decide +kernel
theorem d_law_1528 : decode code 1528 = .ok (.ireturn, 1) := by decide +kernel
theorem d_law_1529 : decode code 1529 = .ok (.aload_n 1, 1) := by decide +kernel
theorem d_law_1530 : decode code 1530 = .ok (.aload_n 0, 1) := by decide +kernel
theorem d_law_1531 : decode code 1531 = .ok (.iload_n 3, 1) := by decide +kernel
theorem d_law_1532 : decode code 1532 = .ok (.iconst 1, 1) := by decide +kernel
theorem d_law_1533 : decode code 1533 = .ok (.iadd, 1) := by decide +kernel
theorem d_law_1534 : decode code 1534 = .ok (.iaload, 1) := by decide +kernel
theorem d_law_1535 : decode code 1535 = .ok (.invokevirtual 203, 3) := by decide +kernel
theorem d_law_1538 : decode code 1538 = .ok (.aload_n 2, 1) := by decide +kernel
theorem d_law_1539 : decode code 1539 = .ok (.aload_n 0, 1) := by decide +kernel
theorem d_law_1540 : decode code 1540 = .ok (.iload_n 3, 1) := by decide +kernel
theorem d_law_1541 : decode code 1541 = .ok (.iconst 1, 1) := by decide +kernel
theorem d_law_1542 : decode code 1542 = .ok (.iadd, 1) := by decide +kernel
theorem d_law_1543 : decode code 1543 = .ok (.iaload, 1) := by decide +kernel
theorem d_law_1544 : decode code 1544 = .ok (.invokevirtual 206, 3) := by decide +kernel
theorem d_law_1547 : decode code 1547 = .ok (.if_icmp .eq 28, 3) := by decide +kernel
theorem d_law_1550 : decode code 1550 = .ok (.iconst 0, 1) := by decide +kernel
theorem d_law_1551 : decode code 1551 = .ok (.ireturn, 1) := by decide +kernel
theorem d_law_1552 : decode code 1552 = .ok (.aload_n 1, 1) := by decide +kernel
theorem d_law_1553 : decode code 1553 = .ok (.aload_n 0, 1) := by decide +kernel
theorem d_law_1554 : decode code 1554 = .ok (.iload_n 3, 1) := by decide +kernel
theorem d_law_1555 : decode code 1555 = .ok (.iconst 1, 1) := by decide +kernel
theorem d_law_1556 : decode code 1556 = .ok (.iadd, 1) := by decide +kernel
theorem d_law_1557 : decode code 1557 = .ok (.iaload, 1) := by decide +kernel
theorem d_law_1558 : decode code 1558 = .ok (.invokevirtual 207, 3) := by decide +kernel
theorem d_law_1561 : decode code 1561 = .ok (.aload_n 2, 1) := by decide +kernel
theorem d_law_1562 : decode code 1562 = .ok (.aload_n 0, 1) := by decide +kernel
theorem d_law_1563 : decode code 1563 = .ok (.iload_n 3, 1) := by decide +kernel
theorem d_law_1564 : decode code 1564 = .ok (.iconst 1, 1) := by decide +kernel
theorem d_law_1565 : decode code 1565 = .ok (.iadd, 1) := by decide +kernel
theorem d_law_1566 : decode code 1566 = .ok (.iaload, 1) := by decide +kernel
theorem d_law_1567 : decode code 1567 = .ok (.invokevirtual 210, 3) := by decide +kernel
theorem d_law_1570 : decode code 1570 = .ok (.if_icmp .eq 5, 3) := by decide +kernel
theorem d_law_1573 : decode code 1573 = .ok (.iconst 0, 1) := by decide +kernel
theorem d_law_1574 : decode code 1574 = .ok (.ireturn, 1) := by decide +kernel
theorem d_law_1575 : decode code 1575 = .ok (.iinc 3 6, 3) := by decide +kernel
theorem d_law_1578 : decode code 1578 = .ok (.goto (-1560), 3) := by decide +kernel
theorem d_law_1581 : decode code 1581 = .ok (.iconst 1, 1) := by decide +kernel
theorem d_law_1582 : decode code 1582 = .ok (.ireturn, 1) := by decide +kernel
def f_law_l (xs : Nat → Int32) (n : Nat) : Int32 × zM → Option ((Int32 × zM) ⊕ (Int32))
  | (y3, M) =>
    if ((Int32.ofNat n) - 6) < y3 then
      some (.inr ((1 : Int32)))
    else
      (zss xs n y3).bind fun (v2 : Int32) =>
      if (v2 &&& 63) = 0 then
        (zss xs n (y3 + 1)).bind fun (v5 : Int32) =>
        (zss xs n (y3 + 2)).bind fun (v7 : Int32) =>
        (f_X5_name v5 v7 M).bind fun ((v10, M11) : Int32 × zM) =>
        (zss xs n (y3 + 1)).bind fun (v12 : Int32) =>
        (zss xs n (y3 + 2)).bind fun (v14 : Int32) =>
        (f_X6_name v12 v14 M11).bind fun ((v17, M18) : Int32 × zM) =>
        if v10 = v17 then
          (some (y3 + 6)).bind fun (n20 : Int32) =>
          some (.inl ((n20, M18)))
        else
          some (.inr ((0 : Int32)))
      else
        if (v2 &&& 63) = 1 then
          (zss xs n (y3 + 1)).bind fun (v23 : Int32) =>
          (zss xs n (y3 + 2)).bind fun (v25 : Int32) =>
          (f_X5_of v23 v25 M).bind fun ((v28, M29) : Int32 × zM) =>
          (zss xs n (y3 + 1)).bind fun (v30 : Int32) =>
          (zss xs n (y3 + 2)).bind fun (v32 : Int32) =>
          (f_X6_of v30 v32 M29).bind fun ((v35, M36) : Int32 × zM) =>
          if v28 = v35 then
            (some (y3 + 6)).bind fun (n38 : Int32) =>
            some (.inl ((n38, M36)))
          else
            some (.inr ((0 : Int32)))
        else
          if (v2 &&& 63) = 2 then
            (zss xs n (y3 + 1)).bind fun (v41 : Int32) =>
            (zss xs n (y3 + 2)).bind fun (v43 : Int32) =>
            (zss xs n (y3 + 3)).bind fun (v45 : Int32) =>
            (f_X5_change v41 v43 v45 M).bind fun ((v48, M49) : Int32 × zM) =>
            (zss xs n (y3 + 1)).bind fun (v50 : Int32) =>
            (zss xs n (y3 + 2)).bind fun (v52 : Int32) =>
            (zss xs n (y3 + 3)).bind fun (v54 : Int32) =>
            (f_X6_change v50 v52 v54 M49).bind fun ((v57, M58) : Int32 × zM) =>
            if v48 = v57 then
              (some (y3 + 6)).bind fun (n60 : Int32) =>
              some (.inl ((n60, M58)))
            else
              some (.inr ((0 : Int32)))
          else
            if (v2 &&& 63) = 3 then
              (zss xs n (y3 + 1)).bind fun (v63 : Int32) =>
              (zss xs n (y3 + 2)).bind fun (v65 : Int32) =>
              (zss xs n (y3 + 3)).bind fun (v67 : Int32) =>
              (f_X5_person v63 v65 v67 M).bind fun ((v70, M71) : Int32 × zM) =>
              (zss xs n (y3 + 1)).bind fun (v72 : Int32) =>
              (zss xs n (y3 + 2)).bind fun (v74 : Int32) =>
              (zss xs n (y3 + 3)).bind fun (v76 : Int32) =>
              (f_X6_person v72 v74 v76 M71).bind fun ((v79, M80) : Int32 × zM) =>
              if v70 = v79 then
                (some (y3 + 6)).bind fun (n82 : Int32) =>
                some (.inl ((n82, M80)))
              else
                some (.inr ((0 : Int32)))
            else
              if (v2 &&& 63) = 4 then
                (zss xs n (y3 + 1)).bind fun (v85 : Int32) =>
                (zss xs n (y3 + 2)).bind fun (v87 : Int32) =>
                (f_X5_personOf v85 v87 M).bind fun ((v90, M91) : Int32 × zM) =>
                (zss xs n (y3 + 1)).bind fun (v92 : Int32) =>
                (zss xs n (y3 + 2)).bind fun (v94 : Int32) =>
                (f_X6_personOf v92 v94 M91).bind fun ((v97, M98) : Int32 × zM) =>
                if v90 = v97 then
                  (some (y3 + 6)).bind fun (n100 : Int32) =>
                  some (.inl ((n100, M98)))
                else
                  some (.inr ((0 : Int32)))
              else
                if (v2 &&& 63) = 5 then
                  (zss xs n (y3 + 1)).bind fun (v103 : Int32) =>
                  (f_X5_order v103 M).bind fun ((v106, M107) : Int32 × zM) =>
                  (zss xs n (y3 + 1)).bind fun (v108 : Int32) =>
                  (f_X6_order v108 M107).bind fun ((v111, M112) : Int32 × zM) =>
                  if v106 = v111 then
                    (some (y3 + 6)).bind fun (n114 : Int32) =>
                    some (.inl ((n114, M112)))
                  else
                    some (.inr ((0 : Int32)))
                else
                  if (v2 &&& 63) = 6 then
                    (zss xs n (y3 + 1)).bind fun (v117 : Int32) =>
                    (zss xs n (y3 + 2)).bind fun (v119 : Int32) =>
                    (f_X5_at v117 v119 M).bind fun ((v122, M123) : Int32 × zM) =>
                    (zss xs n (y3 + 1)).bind fun (v124 : Int32) =>
                    (zss xs n (y3 + 2)).bind fun (v126 : Int32) =>
                    (f_X6_at v124 v126 M123).bind fun ((v129, M130) : Int32 × zM) =>
                    if v122 = v129 then
                      (some (y3 + 6)).bind fun (n132 : Int32) =>
                      some (.inl ((n132, M130)))
                    else
                      some (.inr ((0 : Int32)))
                  else
                    if (v2 &&& 63) = 7 then
                      (zss xs n (y3 + 1)).bind fun (v135 : Int32) =>
                      (f_X5_go v135 M).bind fun ((v138, M139) : Int32 × zM) =>
                      (zss xs n (y3 + 1)).bind fun (v140 : Int32) =>
                      (f_X6_go v140 M139).bind fun ((v143, M144) : Int32 × zM) =>
                      if v138 = v143 then
                        (some (y3 + 6)).bind fun (n146 : Int32) =>
                        some (.inl ((n146, M144)))
                      else
                        some (.inr ((0 : Int32)))
                    else
                      if (v2 &&& 63) = 8 then
                        (zss xs n (y3 + 1)).bind fun (v149 : Int32) =>
                        (f_X5_now v149 M).bind fun ((v152, M153) : Int32 × zM) =>
                        (zss xs n (y3 + 1)).bind fun (v154 : Int32) =>
                        (f_X6_now v154 M153).bind fun ((v157, M158) : Int32 × zM) =>
                        if v152 = v157 then
                          (some (y3 + 6)).bind fun (n160 : Int32) =>
                          some (.inl ((n160, M158)))
                        else
                          some (.inr ((0 : Int32)))
                      else
                        if (v2 &&& 63) = 9 then
                          (zss xs n (y3 + 1)).bind fun (v163 : Int32) =>
                          (zss xs n (y3 + 2)).bind fun (v165 : Int32) =>
                          (zss xs n (y3 + 3)).bind fun (v167 : Int32) =>
                          (f_X5_mend v163 v165 v167 M).bind fun ((v170, M171) : Int32 × zM) =>
                          (zss xs n (y3 + 1)).bind fun (v172 : Int32) =>
                          (zss xs n (y3 + 2)).bind fun (v174 : Int32) =>
                          (zss xs n (y3 + 3)).bind fun (v176 : Int32) =>
                          (f_X6_mend v172 v174 v176 M171).bind fun ((v179, M180) : Int32 × zM) =>
                          if v170 = v179 then
                            (some (y3 + 6)).bind fun (n182 : Int32) =>
                            some (.inl ((n182, M180)))
                          else
                            some (.inr ((0 : Int32)))
                        else
                          if (v2 &&& 63) = 10 then
                            (zss xs n (y3 + 1)).bind fun (v185 : Int32) =>
                            (f_X5_wears v185 M).bind fun ((v188, M189) : Int32 × zM) =>
                            (zss xs n (y3 + 1)).bind fun (v190 : Int32) =>
                            (f_X6_wears v190 M189).bind fun ((v193, M194) : Int32 × zM) =>
                            if v188 = v193 then
                              (some (y3 + 6)).bind fun (n196 : Int32) =>
                              some (.inl ((n196, M194)))
                            else
                              some (.inr ((0 : Int32)))
                          else
                            if (v2 &&& 63) = 11 then
                              (zss xs n (y3 + 1)).bind fun (v199 : Int32) =>
                              (zss xs n (y3 + 2)).bind fun (v201 : Int32) =>
                              (f_X5_ahead v199 v201 M).bind fun ((v204, M205) : Int32 × zM) =>
                              (zss xs n (y3 + 1)).bind fun (v206 : Int32) =>
                              (zss xs n (y3 + 2)).bind fun (v208 : Int32) =>
                              (f_X6_ahead v206 v208 M205).bind fun ((v211, M212) : Int32 × zM) =>
                              if v204 = v211 then
                                (some (y3 + 6)).bind fun (n214 : Int32) =>
                                some (.inl ((n214, M212)))
                              else
                                some (.inr ((0 : Int32)))
                            else
                              if (v2 &&& 63) = 12 then
                                (zss xs n (y3 + 1)).bind fun (v217 : Int32) =>
                                (zss xs n (y3 + 2)).bind fun (v219 : Int32) =>
                                (f_X5_owes v217 v219 M).bind fun ((v222, M223) : Int32 × zM) =>
                                (zss xs n (y3 + 1)).bind fun (v224 : Int32) =>
                                (zss xs n (y3 + 2)).bind fun (v226 : Int32) =>
                                (f_X6_owes v224 v226 M223).bind fun ((v229, M230) : Int32 × zM) =>
                                if v222 = v229 then
                                  (some (y3 + 6)).bind fun (n232 : Int32) =>
                                  some (.inl ((n232, M230)))
                                else
                                  some (.inr ((0 : Int32)))
                              else
                                if (v2 &&& 63) = 13 then
                                  (zss xs n (y3 + 1)).bind fun (v235 : Int32) =>
                                  (f_X5_lasts v235 M).bind fun ((v238, M239) : Int32 × zM) =>
                                  (zss xs n (y3 + 1)).bind fun (v240 : Int32) =>
                                  (f_X6_lasts v240 M239).bind fun ((v243, M244) : Int32 × zM) =>
                                  if v238 = v243 then
                                    (some (y3 + 6)).bind fun (n246 : Int32) =>
                                    some (.inl ((n246, M244)))
                                  else
                                    some (.inr ((0 : Int32)))
                                else
                                  if (v2 &&& 63) = 14 then
                                    (zss xs n (y3 + 1)).bind fun (v249 : Int32) =>
                                    (f_X5_broke v249 M).bind fun ((v252, M253) : Int32 × zM) =>
                                    (zss xs n (y3 + 1)).bind fun (v254 : Int32) =>
                                    (f_X6_broke v254 M253).bind fun ((v257, M258) : Int32 × zM) =>
                                    if v252 = v257 then
                                      (some (y3 + 6)).bind fun (n260 : Int32) =>
                                      some (.inl ((n260, M258)))
                                    else
                                      some (.inr ((0 : Int32)))
                                  else
                                    if (v2 &&& 63) = 15 then
                                      (zss xs n (y3 + 1)).bind fun (v263 : Int32) =>
                                      (zss xs n (y3 + 2)).bind fun (v265 : Int32) =>
                                      (zss xs n (y3 + 3)).bind fun (v267 : Int32) =>
                                      (f_X5_often v263 v265 v267 M).bind fun ((v270, M271) : Int32 × zM) =>
                                      (zss xs n (y3 + 1)).bind fun (v272 : Int32) =>
                                      (zss xs n (y3 + 2)).bind fun (v274 : Int32) =>
                                      (zss xs n (y3 + 3)).bind fun (v276 : Int32) =>
                                      (f_X6_often v272 v274 v276 M271).bind fun ((v279, M280) : Int32 × zM) =>
                                      if v270 = v279 then
                                        (some (y3 + 6)).bind fun (n282 : Int32) =>
                                        some (.inl ((n282, M280)))
                                      else
                                        some (.inr ((0 : Int32)))
                                    else
                                      if (v2 &&& 63) = 16 then
                                        (zss xs n (y3 + 1)).bind fun (v285 : Int32) =>
                                        (f_X5_kindFor v285 M).bind fun ((v288, M289) : Int32 × zM) =>
                                        (zss xs n (y3 + 1)).bind fun (v290 : Int32) =>
                                        (f_X6_kindFor v290 M289).bind fun ((v293, M294) : Int32 × zM) =>
                                        if v288 = v293 then
                                          (some (y3 + 6)).bind fun (n296 : Int32) =>
                                          some (.inl ((n296, M294)))
                                        else
                                          some (.inr ((0 : Int32)))
                                      else
                                        if (v2 &&& 63) = 17 then
                                          (zss xs n (y3 + 1)).bind fun (v299 : Int32) =>
                                          (zss xs n (y3 + 2)).bind fun (v301 : Int32) =>
                                          (f_X5_orderFor v299 v301 M).bind fun ((v304, M305) : Int32 × zM) =>
                                          (zss xs n (y3 + 1)).bind fun (v306 : Int32) =>
                                          (zss xs n (y3 + 2)).bind fun (v308 : Int32) =>
                                          (f_X6_orderFor v306 v308 M305).bind fun ((v311, M312) : Int32 × zM) =>
                                          if v304 = v311 then
                                            (some (y3 + 6)).bind fun (n314 : Int32) =>
                                            some (.inl ((n314, M312)))
                                          else
                                            some (.inr ((0 : Int32)))
                                        else
                                          if (v2 &&& 63) = 18 then
                                            (zss xs n (y3 + 1)).bind fun (v317 : Int32) =>
                                            (zss xs n (y3 + 2)).bind fun (v319 : Int32) =>
                                            (f_X5_orders v317 v319 M).bind fun ((v322, M323) : Int32 × zM) =>
                                            (zss xs n (y3 + 1)).bind fun (v324 : Int32) =>
                                            (zss xs n (y3 + 2)).bind fun (v326 : Int32) =>
                                            (f_X6_orders v324 v326 M323).bind fun ((v329, M330) : Int32 × zM) =>
                                            if v322 = v329 then
                                              (some (y3 + 6)).bind fun (n332 : Int32) =>
                                              some (.inl ((n332, M330)))
                                            else
                                              some (.inr ((0 : Int32)))
                                          else
                                            if (v2 &&& 63) = 19 then
                                              (f_X5_cheapest  M).bind fun ((v336, M337) : Int32 × zM) =>
                                              (f_X6_cheapest  M337).bind fun ((v339, M340) : Int32 × zM) =>
                                              if v336 = v339 then
                                                (some (y3 + 6)).bind fun (n342 : Int32) =>
                                                some (.inl ((n342, M340)))
                                              else
                                                some (.inr ((0 : Int32)))
                                            else
                                              if (v2 &&& 63) = 20 then
                                                (f_X5_calmest  M).bind fun ((v346, M347) : Int32 × zM) =>
                                                (f_X6_calmest  M347).bind fun ((v349, M350) : Int32 × zM) =>
                                                if v346 = v349 then
                                                  (some (y3 + 6)).bind fun (n352 : Int32) =>
                                                  some (.inl ((n352, M350)))
                                                else
                                                  some (.inr ((0 : Int32)))
                                              else
                                                if (v2 &&& 63) = 21 then
                                                  (zss xs n (y3 + 1)).bind fun (v355 : Int32) =>
                                                  (zss xs n (y3 + 2)).bind fun (v357 : Int32) =>
                                                  (f_X5_best v355 v357 M).bind fun ((v360, M361) : Int32 × zM) =>
                                                  (zss xs n (y3 + 1)).bind fun (v362 : Int32) =>
                                                  (zss xs n (y3 + 2)).bind fun (v364 : Int32) =>
                                                  (f_X6_best v362 v364 M361).bind fun ((v367, M368) : Int32 × zM) =>
                                                  if v360 = v367 then
                                                    (some (y3 + 6)).bind fun (n370 : Int32) =>
                                                    some (.inl ((n370, M368)))
                                                  else
                                                    some (.inr ((0 : Int32)))
                                                else
                                                  if (v2 &&& 63) = 22 then
                                                    (zss xs n (y3 + 1)).bind fun (v373 : Int32) =>
                                                    (zss xs n (y3 + 2)).bind fun (v375 : Int32) =>
                                                    (f_X5_wishFor v373 v375 M).bind fun ((v378, M379) : Int32 × zM) =>
                                                    (zss xs n (y3 + 1)).bind fun (v380 : Int32) =>
                                                    (zss xs n (y3 + 2)).bind fun (v382 : Int32) =>
                                                    (f_X6_wishFor v380 v382 M379).bind fun ((v385, M386) : Int32 × zM) =>
                                                    if v378 = v385 then
                                                      (some (y3 + 6)).bind fun (n388 : Int32) =>
                                                      some (.inl ((n388, M386)))
                                                    else
                                                      some (.inr ((0 : Int32)))
                                                  else
                                                    if (v2 &&& 63) = 23 then
                                                      (f_X5_peace  M).bind fun (v392 : Int32) =>
                                                      (f_X6_peace  M).bind fun (v394 : Int32) =>
                                                      if v392 = v394 then
                                                        (some (y3 + 6)).bind fun (n396 : Int32) =>
                                                        some (.inl ((n396, M)))
                                                      else
                                                        some (.inr ((0 : Int32)))
                                                    else
                                                      if (v2 &&& 63) = 24 then
                                                        (zss xs n (y3 + 1)).bind fun (v399 : Int32) =>
                                                        (f_X5_peaceful v399 M).bind fun ((v402, M403) : Int32 × zM) =>
                                                        (zss xs n (y3 + 1)).bind fun (v404 : Int32) =>
                                                        (f_X6_peaceful v404 M403).bind fun ((v407, M408) : Int32 × zM) =>
                                                        if v402 = v407 then
                                                          (some (y3 + 6)).bind fun (n410 : Int32) =>
                                                          some (.inl ((n410, M408)))
                                                        else
                                                          some (.inr ((0 : Int32)))
                                                      else
                                                        if (v2 &&& 63) = 25 then
                                                          (f_X5_groups  M).bind fun (v414 : Int32) =>
                                                          (f_X6_groups  M).bind fun ((v416, M417) : Int32 × zM) =>
                                                          if v414 = v416 then
                                                            (some (y3 + 6)).bind fun (n419 : Int32) =>
                                                            some (.inl ((n419, M417)))
                                                          else
                                                            some (.inr ((0 : Int32)))
                                                        else
                                                          if (v2 &&& 63) = 26 then
                                                            (zss xs n (y3 + 1)).bind fun (v422 : Int32) =>
                                                            (f_X5_mendFor v422 M).bind fun ((v425, M426) : Int32 × zM) =>
                                                            (zss xs n (y3 + 1)).bind fun (v427 : Int32) =>
                                                            (f_X6_mendFor v427 M426).bind fun ((v430, M431) : Int32 × zM) =>
                                                            if v425 = v430 then
                                                              (some (y3 + 6)).bind fun (n433 : Int32) =>
                                                              some (.inl ((n433, M431)))
                                                            else
                                                              some (.inr ((0 : Int32)))
                                                          else
                                                            if (v2 &&& 63) = 27 then
                                                              (zss xs n (y3 + 1)).bind fun (v436 : Int32) =>
                                                              (f_X5_without v436 M).bind fun ((v439, M440) : Int32 × zM) =>
                                                              (zss xs n (y3 + 1)).bind fun (v441 : Int32) =>
                                                              (f_X6_without v441 M440).bind fun ((v444, M445) : Int32 × zM) =>
                                                              if v439 = v444 then
                                                                (some (y3 + 6)).bind fun (n447 : Int32) =>
                                                                some (.inl ((n447, M445)))
                                                              else
                                                                some (.inr ((0 : Int32)))
                                                            else
                                                              if (v2 &&& 63) = 28 then
                                                                (zss xs n (y3 + 1)).bind fun (v450 : Int32) =>
                                                                (zss xs n (y3 + 2)).bind fun (v452 : Int32) =>
                                                                (f_X5_fits v450 v452 M).bind fun ((v455, M456) : Int32 × zM) =>
                                                                (zss xs n (y3 + 1)).bind fun (v457 : Int32) =>
                                                                (zss xs n (y3 + 2)).bind fun (v459 : Int32) =>
                                                                (f_X6_fits v457 v459 M456).bind fun ((v462, M463) : Int32 × zM) =>
                                                                if v455 = v462 then
                                                                  (some (y3 + 6)).bind fun (n465 : Int32) =>
                                                                  some (.inl ((n465, M463)))
                                                                else
                                                                  some (.inr ((0 : Int32)))
                                                              else
                                                                if (v2 &&& 63) = 29 then
                                                                  (zss xs n (y3 + 1)).bind fun (v468 : Int32) =>
                                                                  (zss xs n (y3 + 2)).bind fun (v470 : Int32) =>
                                                                  (f_X5_wish v468 v470 M).bind fun ((v473, M474) : Int32 × zM) =>
                                                                  (zss xs n (y3 + 1)).bind fun (v475 : Int32) =>
                                                                  (zss xs n (y3 + 2)).bind fun (v477 : Int32) =>
                                                                  (f_X6_wish v475 v477 M474).bind fun ((v480, M481) : Int32 × zM) =>
                                                                  if v473 = v480 then
                                                                    (some (y3 + 6)).bind fun (n483 : Int32) =>
                                                                    some (.inl ((n483, M481)))
                                                                  else
                                                                    some (.inr ((0 : Int32)))
                                                                else
                                                                  if (v2 &&& 63) = 30 then
                                                                    (zss xs n (y3 + 1)).bind fun (v486 : Int32) =>
                                                                    (f_X5_moths v486 M).bind fun ((v489, M490) : Int32 × zM) =>
                                                                    (zss xs n (y3 + 1)).bind fun (v491 : Int32) =>
                                                                    (f_X6_moths v491 M490).bind fun ((v494, M495) : Int32 × zM) =>
                                                                    if v489 = v494 then
                                                                      (some (y3 + 6)).bind fun (n497 : Int32) =>
                                                                      some (.inl ((n497, M495)))
                                                                    else
                                                                      some (.inr ((0 : Int32)))
                                                                  else
                                                                    if (v2 &&& 63) = 31 then
                                                                      (zss xs n (y3 + 1)).bind fun (v500 : Int32) =>
                                                                      (zss xs n (y3 + 2)).bind fun (v502 : Int32) =>
                                                                      (f_X5_odds v500 v502 M).bind fun ((v505, M506) : Int64 × zM) =>
                                                                      (zss xs n (y3 + 1)).bind fun (v507 : Int32) =>
                                                                      (zss xs n (y3 + 2)).bind fun (v509 : Int32) =>
                                                                      (f_X6_odds v507 v509 M506).bind fun ((v512, M513) : Int64 × zM) =>
                                                                      if (lg_cmp v505 v512) = 0 then
                                                                        (some (y3 + 6)).bind fun (n515 : Int32) =>
                                                                        some (.inl ((n515, M513)))
                                                                      else
                                                                        some (.inr ((0 : Int32)))
                                                                    else
                                                                      if (v2 &&& 63) = 32 then
                                                                        (zss xs n (y3 + 1)).bind fun (v518 : Int32) =>
                                                                        (f_X5_seed v518 M).bind fun ((v521, M522) : Int32 × zM) =>
                                                                        (zss xs n (y3 + 1)).bind fun (v523 : Int32) =>
                                                                        (f_X6_seed v523 M522).bind fun ((v526, M527) : Int32 × zM) =>
                                                                        if v521 = v526 then
                                                                          (some (y3 + 6)).bind fun (n529 : Int32) =>
                                                                          some (.inl ((n529, M527)))
                                                                        else
                                                                          some (.inr ((0 : Int32)))
                                                                      else
                                                                        if (v2 &&& 63) = 33 then
                                                                          (zss xs n (y3 + 1)).bind fun (v532 : Int32) =>
                                                                          (zss xs n (y3 + 2)).bind fun (v534 : Int32) =>
                                                                          (f_X5_feed v532 v534 M).bind fun ((v537, M538) : Int32 × zM) =>
                                                                          (zss xs n (y3 + 1)).bind fun (v539 : Int32) =>
                                                                          (zss xs n (y3 + 2)).bind fun (v541 : Int32) =>
                                                                          (f_X6_feed v539 v541 M538).bind fun ((v544, M545) : Int32 × zM) =>
                                                                          if v537 = v544 then
                                                                            (some (y3 + 6)).bind fun (n547 : Int32) =>
                                                                            some (.inl ((n547, M545)))
                                                                          else
                                                                            some (.inr ((0 : Int32)))
                                                                        else
                                                                          if (v2 &&& 63) = 34 then
                                                                            (f_X5_wipe  M).bind fun ((v551, M552) : Int32 × zM) =>
                                                                            (f_X6_wipe  M552).bind fun ((v554, M555) : Int32 × zM) =>
                                                                            if v551 = v554 then
                                                                              (some (y3 + 6)).bind fun (n557 : Int32) =>
                                                                              some (.inl ((n557, M555)))
                                                                            else
                                                                              some (.inr ((0 : Int32)))
                                                                          else
                                                                            if (v2 &&& 63) = 35 then
                                                                              (f_X5_text  M).bind fun ((v561, M562) : Int32 × zM) =>
                                                                              (f_X6_text  M562).bind fun ((v564, M565) : Int32 × zM) =>
                                                                              if v561 = v564 then
                                                                                (some (y3 + 6)).bind fun (n567 : Int32) =>
                                                                                some (.inl ((n567, M565)))
                                                                              else
                                                                                some (.inr ((0 : Int32)))
                                                                            else
                                                                              if (v2 &&& 63) = 36 then
                                                                                (zss xs n (y3 + 1)).bind fun (v570 : Int32) =>
                                                                                (zss xs n (y3 + 2)).bind fun (v572 : Int32) =>
                                                                                (f_X5_hold v570 v572 M).bind fun ((v575, M576) : Int32 × zM) =>
                                                                                (zss xs n (y3 + 1)).bind fun (v577 : Int32) =>
                                                                                (zss xs n (y3 + 2)).bind fun (v579 : Int32) =>
                                                                                (f_X6_hold v577 v579 M576).bind fun ((v582, M583) : Int32 × zM) =>
                                                                                if v575 = v582 then
                                                                                  (some (y3 + 6)).bind fun (n585 : Int32) =>
                                                                                  some (.inl ((n585, M583)))
                                                                                else
                                                                                  some (.inr ((0 : Int32)))
                                                                              else
                                                                                if (v2 &&& 63) = 37 then
                                                                                  (zss xs n (y3 + 1)).bind fun (v588 : Int32) =>
                                                                                  (zss xs n (y3 + 2)).bind fun (v590 : Int32) =>
                                                                                  (f_X5_as v588 v590 M).bind fun ((v593, M594) : Int32 × zM) =>
                                                                                  (zss xs n (y3 + 1)).bind fun (v595 : Int32) =>
                                                                                  (zss xs n (y3 + 2)).bind fun (v597 : Int32) =>
                                                                                  (f_X6_as v595 v597 M594).bind fun ((v600, M601) : Int32 × zM) =>
                                                                                  if v593 = v600 then
                                                                                    (some (y3 + 6)).bind fun (n603 : Int32) =>
                                                                                    some (.inl ((n603, M601)))
                                                                                  else
                                                                                    some (.inr ((0 : Int32)))
                                                                                else
                                                                                  if (v2 &&& 63) = 38 then
                                                                                    (zss xs n (y3 + 1)).bind fun (v606 : Int32) =>
                                                                                    (zss xs n (y3 + 2)).bind fun (v608 : Int32) =>
                                                                                    (zss xs n (y3 + 3)).bind fun (v610 : Int32) =>
                                                                                    (f_X5_sheet v606 v608 v610 M).bind fun ((v613, M614) : Int32 × zM) =>
                                                                                    (zss xs n (y3 + 1)).bind fun (v615 : Int32) =>
                                                                                    (zss xs n (y3 + 2)).bind fun (v617 : Int32) =>
                                                                                    (zss xs n (y3 + 3)).bind fun (v619 : Int32) =>
                                                                                    (f_X6_sheet v615 v617 v619 M614).bind fun ((v622, M623) : Int32 × zM) =>
                                                                                    if v613 = v622 then
                                                                                      (some (y3 + 6)).bind fun (n625 : Int32) =>
                                                                                      some (.inl ((n625, M623)))
                                                                                    else
                                                                                      some (.inr ((0 : Int32)))
                                                                                  else
                                                                                    if (v2 &&& 63) = 39 then
                                                                                      (zss xs n (y3 + 1)).bind fun (v628 : Int32) =>
                                                                                      (zss xs n (y3 + 2)).bind fun (v630 : Int32) =>
                                                                                      (zss xs n (y3 + 3)).bind fun (v632 : Int32) =>
                                                                                      (f_X5_write v628 v630 v632 M).bind fun ((v635, M636) : Int32 × zM) =>
                                                                                      (zss xs n (y3 + 1)).bind fun (v637 : Int32) =>
                                                                                      (zss xs n (y3 + 2)).bind fun (v639 : Int32) =>
                                                                                      (zss xs n (y3 + 3)).bind fun (v641 : Int32) =>
                                                                                      (f_X6_write v637 v639 v641 M636).bind fun ((v644, M645) : Int32 × zM) =>
                                                                                      if v635 = v644 then
                                                                                        (some (y3 + 6)).bind fun (n647 : Int32) =>
                                                                                        some (.inl ((n647, M645)))
                                                                                      else
                                                                                        some (.inr ((0 : Int32)))
                                                                                    else
                                                                                      if (v2 &&& 63) = 40 then
                                                                                        (zss xs n (y3 + 1)).bind fun (v650 : Int32) =>
                                                                                        (zss xs n (y3 + 2)).bind fun (v652 : Int32) =>
                                                                                        (zss xs n (y3 + 3)).bind fun (v654 : Int32) =>
                                                                                        (zss xs n (y3 + 4)).bind fun (v656 : Int32) =>
                                                                                        (zss xs n (y3 + 5)).bind fun (v658 : Int32) =>
                                                                                        (f_X5_copy v650 v652 v654 v656 v658 M).bind fun ((v661, M662) : Int32 × zM) =>
                                                                                        (zss xs n (y3 + 1)).bind fun (v663 : Int32) =>
                                                                                        (zss xs n (y3 + 2)).bind fun (v665 : Int32) =>
                                                                                        (zss xs n (y3 + 3)).bind fun (v667 : Int32) =>
                                                                                        (zss xs n (y3 + 4)).bind fun (v669 : Int32) =>
                                                                                        (zss xs n (y3 + 5)).bind fun (v671 : Int32) =>
                                                                                        (f_X6_copy v663 v665 v667 v669 v671 M662).bind fun ((v674, M675) : Int32 × zM) =>
                                                                                        if v661 = v674 then
                                                                                          (some (y3 + 6)).bind fun (n677 : Int32) =>
                                                                                          some (.inl ((n677, M675)))
                                                                                        else
                                                                                          some (.inr ((0 : Int32)))
                                                                                      else
                                                                                        if (v2 &&& 63) = 41 then
                                                                                          (zss xs n (y3 + 1)).bind fun (v680 : Int32) =>
                                                                                          (f_X5_load v680 M).bind fun ((v683, M684) : Int32 × zM) =>
                                                                                          (zss xs n (y3 + 1)).bind fun (v685 : Int32) =>
                                                                                          (f_X6_load v685 M684).bind fun ((v688, M689) : Int32 × zM) =>
                                                                                          if v683 = v688 then
                                                                                            (some (y3 + 6)).bind fun (n691 : Int32) =>
                                                                                            some (.inl ((n691, M689)))
                                                                                          else
                                                                                            some (.inr ((0 : Int32)))
                                                                                        else
                                                                                          if (v2 &&& 63) = 42 then
                                                                                            (zss xs n (y3 + 1)).bind fun (v694 : Int32) =>
                                                                                            (f_X5_judge v694 M).bind fun ((v697, M698) : Int32 × zM) =>
                                                                                            (zss xs n (y3 + 1)).bind fun (v699 : Int32) =>
                                                                                            (f_X6_judge v699 M698).bind fun ((v702, M703) : Int32 × zM) =>
                                                                                            if v697 = v702 then
                                                                                              (some (y3 + 6)).bind fun (n705 : Int32) =>
                                                                                              some (.inl ((n705, M703)))
                                                                                            else
                                                                                              some (.inr ((0 : Int32)))
                                                                                          else
                                                                                            if (v2 &&& 63) = 43 then
                                                                                              (f_X5_image  M).bind fun ((v709, M710) : Int32 × zM) =>
                                                                                              (f_X6_image  M710).bind fun ((v712, M713) : Int32 × zM) =>
                                                                                              if v709 = v712 then
                                                                                                (some (y3 + 6)).bind fun (n715 : Int32) =>
                                                                                                some (.inl ((n715, M713)))
                                                                                              else
                                                                                                some (.inr ((0 : Int32)))
                                                                                            else
                                                                                              if (v2 &&& 63) = 44 then
                                                                                                (f_X5_undo  M).bind fun ((v719, M720) : Int32 × zM) =>
                                                                                                (f_X6_undo  M720).bind fun ((v722, M723) : Int32 × zM) =>
                                                                                                if v719 = v722 then
                                                                                                  (some (y3 + 6)).bind fun (n725 : Int32) =>
                                                                                                  some (.inl ((n725, M723)))
                                                                                                else
                                                                                                  some (.inr ((0 : Int32)))
                                                                                              else
                                                                                                if (v2 &&& 63) = 45 then
                                                                                                  (f_X5_tear  M).bind fun ((v729, M730) : Int32 × zM) =>
                                                                                                  (f_X6_tear  M730).bind fun ((v732, M733) : Int32 × zM) =>
                                                                                                  if v729 = v732 then
                                                                                                    (some (y3 + 6)).bind fun (n735 : Int32) =>
                                                                                                    some (.inl ((n735, M733)))
                                                                                                  else
                                                                                                    some (.inr ((0 : Int32)))
                                                                                                else
                                                                                                  if (v2 &&& 63) = 46 then
                                                                                                    (zss xs n (y3 + 1)).bind fun (v738 : Int32) =>
                                                                                                    (f_X5_count v738 M).bind fun ((v741, M742) : Int32 × zM) =>
                                                                                                    (zss xs n (y3 + 1)).bind fun (v743 : Int32) =>
                                                                                                    (f_X6_count v743 M742).bind fun ((v746, M747) : Int32 × zM) =>
                                                                                                    if v741 = v746 then
                                                                                                      (some (y3 + 6)).bind fun (n749 : Int32) =>
                                                                                                      some (.inl ((n749, M747)))
                                                                                                    else
                                                                                                      some (.inr ((0 : Int32)))
                                                                                                  else
                                                                                                    if (v2 &&& 63) = 47 then
                                                                                                      (zss xs n (y3 + 1)).bind fun (v752 : Int32) =>
                                                                                                      (f_X5_status v752 M).bind fun ((v755, M756) : Int32 × zM) =>
                                                                                                      (zss xs n (y3 + 1)).bind fun (v757 : Int32) =>
                                                                                                      (f_X6_status v757 M756).bind fun ((v760, M761) : Int32 × zM) =>
                                                                                                      if v755 = v760 then
                                                                                                        (some (y3 + 6)).bind fun (n763 : Int32) =>
                                                                                                        some (.inl ((n763, M761)))
                                                                                                      else
                                                                                                        some (.inr ((0 : Int32)))
                                                                                                    else
                                                                                                      (some (y3 + 6)).bind fun (n765 : Int32) =>
                                                                                                      some (.inl ((n765, M)))
set_option maxHeartbeats 8000000 in
set_option maxRecDepth 40000 in
theorem ok_law {E : zEv} {xs : Nat → Int32} {n : Nat} (Z : zC E code 4 "NameRailLaw" 11 274) (hsc : zLw E xs n) {y y3 : Int32} {M : zM} (hy : y = 1) (h : (zIter (f_law_l xs n) 1000 (y3, M)).bind some = some y) : VV E 4 18 [(0, Value.ref 4000), (1, Value.ref 0), (2, Value.ref 47), (3, Value.int y3)] [] M := by
  refine zIter_loop' (K := some) (fun s : Int32 × zM => VV E 4 18 [(0, Value.ref 4000), (1, Value.ref 0), (2, Value.ref 47), (3, Value.int s.1)] [] s.2) (fun K1 s c1_i c1_r h => ?_) _ _ h
  obtain ⟨y3, M⟩ := s
  change VV E 4 18 [(0, Value.ref 4000), (1, Value.ref 0), (2, Value.ref 47), (3, Value.int y3)] [] M
  rw [f_law_l] at h
  refine V_iload_n 3 Z rfl rfl d_law_18 ?_
  refine V_aload_n 0 Z rfl rfl d_law_19 ?_
  refine V_slen Z hsc d_law_20 ?_
  refine V_bipush 6 (by decide) Z d_law_21 ?_
  refine V_isub Z d_law_23 ?_
  refine V_icmp_gt 1581 Z (by decide) d_law_24 (fun c1 => ?_) (fun c1 => ?_)
  · have h := zB_pos c1 h
    refine V_iconst 1 (by decide) Z d_law_1581 ?_
    have h := c1_r _ h
    exact V_lawret Z hsc hy h d_law_1582
  · have h := zB_neg c1 h
    refine V_aload_n 0 Z rfl rfl d_law_27 ?_
    refine V_iload_n 3 Z rfl rfl d_law_28 ?_
    obtain ⟨v2, e3, h⟩ := zB_bind h
    refine V_sld Z hsc e3 d_law_29 ?_
    refine V_bipush 63 (by decide) Z d_law_30 ?_
    refine V_iand Z d_law_32 ?_
    rcases zB_ite h with ⟨c4, h⟩ | ⟨c4, h⟩
    · refine V_tabE (off := 207) 0 240 Z c4 d_law_33 (by decide) ?_
      refine V_aload_n 1 Z rfl rfl d_law_240 ?_
      refine V_aload_n 0 Z rfl rfl d_law_241 ?_
      refine V_iload_n 3 Z rfl rfl d_law_242 ?_
      refine V_iconst 1 (by decide) Z d_law_243 ?_
      refine V_iadd Z d_law_244 ?_
      obtain ⟨v5, e6, h⟩ := zB_bind h
      refine V_sld Z hsc e6 d_law_245 ?_
      refine V_aload_n 0 Z rfl rfl d_law_246 ?_
      refine V_iload_n 3 Z rfl rfl d_law_247 ?_
      refine V_iconst 2 (by decide) Z d_law_248 ?_
      refine V_iadd Z d_law_249 ?_
      obtain ⟨v7, e8, h⟩ := zB_bind h
      refine V_sld Z hsc e8 d_law_250 ?_
      obtain ⟨⟨v10, M11⟩, e9, h⟩ := zB_bind h
      refine V_callV (rest := []) 2 Z (ok_X5_name  e9) cd_X5_name zc4 (by decide) rfl w241 w242 w243 rfl d_law_251 rfl ?_
      refine V_aload_n 2 Z rfl rfl d_law_254 ?_
      refine V_aload_n 0 Z rfl rfl d_law_255 ?_
      refine V_iload_n 3 Z rfl rfl d_law_256 ?_
      refine V_iconst 1 (by decide) Z d_law_257 ?_
      refine V_iadd Z d_law_258 ?_
      obtain ⟨v12, e13, h⟩ := zB_bind h
      refine V_sld Z hsc e13 d_law_259 ?_
      refine V_aload_n 0 Z rfl rfl d_law_260 ?_
      refine V_iload_n 3 Z rfl rfl d_law_261 ?_
      refine V_iconst 2 (by decide) Z d_law_262 ?_
      refine V_iadd Z d_law_263 ?_
      obtain ⟨v14, e15, h⟩ := zB_bind h
      refine V_sld Z hsc e15 d_law_264 ?_
      obtain ⟨⟨v17, M18⟩, e16, h⟩ := zB_bind h
      refine V_callV (rest := [_]) 2 Z (ok_X6_name  e16) cd_X6_name zc5 (by decide) rfl w833 w834 w835 rfl d_law_265 rfl ?_
      refine V_icmp_eq 1575 Z (by decide) d_law_268 (fun c19 => ?_) (fun c19 => ?_)
      · have h := zB_pos c19 h
        obtain ⟨n20, e21, h⟩ := zB_let h
        refine V_iinck 6 6 3 n20 [(3, Value.int n20), (0, Value.ref 4000), (1, Value.ref 0), (2, Value.ref 47)] Z (by decide) (by decide) rfl e21 rfl d_law_1575 ?_
        refine V_goto 18 Z (by decide) d_law_1578 ?_
        refine V_sub [1, 2, 3, 0] rfl ?_
        exact c1_i _ h
      · have h := zB_neg c19 h
        refine V_iconst 0 (by decide) Z d_law_271 ?_
        have h := c1_r _ h
        exact V_lawret Z hsc hy h d_law_272
    · skip
      rcases zB_ite h with ⟨c22, h⟩ | ⟨c22, h⟩
      · refine V_tabE (off := 240) 1 273 Z c22 d_law_33 (by decide) ?_
        refine V_aload_n 1 Z rfl rfl d_law_273 ?_
        refine V_aload_n 0 Z rfl rfl d_law_274 ?_
        refine V_iload_n 3 Z rfl rfl d_law_275 ?_
        refine V_iconst 1 (by decide) Z d_law_276 ?_
        refine V_iadd Z d_law_277 ?_
        obtain ⟨v23, e24, h⟩ := zB_bind h
        refine V_sld Z hsc e24 d_law_278 ?_
        refine V_aload_n 0 Z rfl rfl d_law_279 ?_
        refine V_iload_n 3 Z rfl rfl d_law_280 ?_
        refine V_iconst 2 (by decide) Z d_law_281 ?_
        refine V_iadd Z d_law_282 ?_
        obtain ⟨v25, e26, h⟩ := zB_bind h
        refine V_sld Z hsc e26 d_law_283 ?_
        obtain ⟨⟨v28, M29⟩, e27, h⟩ := zB_bind h
        refine V_callV (rest := []) 2 Z (ok_X5_of  e27) cd_X5_of zc4 (by decide) rfl w257 w258 w259 rfl d_law_284 rfl ?_
        refine V_aload_n 2 Z rfl rfl d_law_287 ?_
        refine V_aload_n 0 Z rfl rfl d_law_288 ?_
        refine V_iload_n 3 Z rfl rfl d_law_289 ?_
        refine V_iconst 1 (by decide) Z d_law_290 ?_
        refine V_iadd Z d_law_291 ?_
        obtain ⟨v30, e31, h⟩ := zB_bind h
        refine V_sld Z hsc e31 d_law_292 ?_
        refine V_aload_n 0 Z rfl rfl d_law_293 ?_
        refine V_iload_n 3 Z rfl rfl d_law_294 ?_
        refine V_iconst 2 (by decide) Z d_law_295 ?_
        refine V_iadd Z d_law_296 ?_
        obtain ⟨v32, e33, h⟩ := zB_bind h
        refine V_sld Z hsc e33 d_law_297 ?_
        obtain ⟨⟨v35, M36⟩, e34, h⟩ := zB_bind h
        refine V_callV (rest := [_]) 2 Z (ok_X6_of  e34) cd_X6_of zc5 (by decide) rfl w856 w857 w858 rfl d_law_298 rfl ?_
        refine V_icmp_eq 1575 Z (by decide) d_law_301 (fun c37 => ?_) (fun c37 => ?_)
        · have h := zB_pos c37 h
          obtain ⟨n38, e39, h⟩ := zB_let h
          refine V_iinck 6 6 3 n38 [(3, Value.int n38), (0, Value.ref 4000), (1, Value.ref 0), (2, Value.ref 47)] Z (by decide) (by decide) rfl e39 rfl d_law_1575 ?_
          refine V_goto 18 Z (by decide) d_law_1578 ?_
          refine V_sub [1, 2, 3, 0] rfl ?_
          exact c1_i _ h
        · have h := zB_neg c37 h
          refine V_iconst 0 (by decide) Z d_law_304 ?_
          have h := c1_r _ h
          exact V_lawret Z hsc hy h d_law_305
      · skip
        rcases zB_ite h with ⟨c40, h⟩ | ⟨c40, h⟩
        · refine V_tabE (off := 273) 2 306 Z c40 d_law_33 (by decide) ?_
          refine V_aload_n 1 Z rfl rfl d_law_306 ?_
          refine V_aload_n 0 Z rfl rfl d_law_307 ?_
          refine V_iload_n 3 Z rfl rfl d_law_308 ?_
          refine V_iconst 1 (by decide) Z d_law_309 ?_
          refine V_iadd Z d_law_310 ?_
          obtain ⟨v41, e42, h⟩ := zB_bind h
          refine V_sld Z hsc e42 d_law_311 ?_
          refine V_aload_n 0 Z rfl rfl d_law_312 ?_
          refine V_iload_n 3 Z rfl rfl d_law_313 ?_
          refine V_iconst 2 (by decide) Z d_law_314 ?_
          refine V_iadd Z d_law_315 ?_
          obtain ⟨v43, e44, h⟩ := zB_bind h
          refine V_sld Z hsc e44 d_law_316 ?_
          refine V_aload_n 0 Z rfl rfl d_law_317 ?_
          refine V_iload_n 3 Z rfl rfl d_law_318 ?_
          refine V_iconst 3 (by decide) Z d_law_319 ?_
          refine V_iadd Z d_law_320 ?_
          obtain ⟨v45, e46, h⟩ := zB_bind h
          refine V_sld Z hsc e46 d_law_321 ?_
          obtain ⟨⟨v48, M49⟩, e47, h⟩ := zB_bind h
          refine V_callV (rest := []) 3 Z (ok_X5_change  e47) cd_X5_change zc4 (by decide) rfl w283 w284 w285 rfl d_law_322 rfl ?_
          refine V_aload_n 2 Z rfl rfl d_law_325 ?_
          refine V_aload_n 0 Z rfl rfl d_law_326 ?_
          refine V_iload_n 3 Z rfl rfl d_law_327 ?_
          refine V_iconst 1 (by decide) Z d_law_328 ?_
          refine V_iadd Z d_law_329 ?_
          obtain ⟨v50, e51, h⟩ := zB_bind h
          refine V_sld Z hsc e51 d_law_330 ?_
          refine V_aload_n 0 Z rfl rfl d_law_331 ?_
          refine V_iload_n 3 Z rfl rfl d_law_332 ?_
          refine V_iconst 2 (by decide) Z d_law_333 ?_
          refine V_iadd Z d_law_334 ?_
          obtain ⟨v52, e53, h⟩ := zB_bind h
          refine V_sld Z hsc e53 d_law_335 ?_
          refine V_aload_n 0 Z rfl rfl d_law_336 ?_
          refine V_iload_n 3 Z rfl rfl d_law_337 ?_
          refine V_iconst 3 (by decide) Z d_law_338 ?_
          refine V_iadd Z d_law_339 ?_
          obtain ⟨v54, e55, h⟩ := zB_bind h
          refine V_sld Z hsc e55 d_law_340 ?_
          obtain ⟨⟨v57, M58⟩, e56, h⟩ := zB_bind h
          refine V_callV (rest := [_]) 3 Z (ok_X6_change  e56) cd_X6_change zc5 (by decide) rfl w888 w889 w890 rfl d_law_341 rfl ?_
          refine V_icmp_eq 1575 Z (by decide) d_law_344 (fun c59 => ?_) (fun c59 => ?_)
          · have h := zB_pos c59 h
            obtain ⟨n60, e61, h⟩ := zB_let h
            refine V_iinck 6 6 3 n60 [(3, Value.int n60), (0, Value.ref 4000), (1, Value.ref 0), (2, Value.ref 47)] Z (by decide) (by decide) rfl e61 rfl d_law_1575 ?_
            refine V_goto 18 Z (by decide) d_law_1578 ?_
            refine V_sub [1, 2, 3, 0] rfl ?_
            exact c1_i _ h
          · have h := zB_neg c59 h
            refine V_iconst 0 (by decide) Z d_law_347 ?_
            have h := c1_r _ h
            exact V_lawret Z hsc hy h d_law_348
        · skip
          rcases zB_ite h with ⟨c62, h⟩ | ⟨c62, h⟩
          · refine V_tabE (off := 316) 3 349 Z c62 d_law_33 (by decide) ?_
            refine V_aload_n 1 Z rfl rfl d_law_349 ?_
            refine V_aload_n 0 Z rfl rfl d_law_350 ?_
            refine V_iload_n 3 Z rfl rfl d_law_351 ?_
            refine V_iconst 1 (by decide) Z d_law_352 ?_
            refine V_iadd Z d_law_353 ?_
            obtain ⟨v63, e64, h⟩ := zB_bind h
            refine V_sld Z hsc e64 d_law_354 ?_
            refine V_aload_n 0 Z rfl rfl d_law_355 ?_
            refine V_iload_n 3 Z rfl rfl d_law_356 ?_
            refine V_iconst 2 (by decide) Z d_law_357 ?_
            refine V_iadd Z d_law_358 ?_
            obtain ⟨v65, e66, h⟩ := zB_bind h
            refine V_sld Z hsc e66 d_law_359 ?_
            refine V_aload_n 0 Z rfl rfl d_law_360 ?_
            refine V_iload_n 3 Z rfl rfl d_law_361 ?_
            refine V_iconst 3 (by decide) Z d_law_362 ?_
            refine V_iadd Z d_law_363 ?_
            obtain ⟨v67, e68, h⟩ := zB_bind h
            refine V_sld Z hsc e68 d_law_364 ?_
            obtain ⟨⟨v70, M71⟩, e69, h⟩ := zB_bind h
            refine V_callV (rest := []) 3 Z (ok_X5_person  e69) cd_X5_person zc4 (by decide) rfl w296 w297 w298 rfl d_law_365 rfl ?_
            refine V_aload_n 2 Z rfl rfl d_law_368 ?_
            refine V_aload_n 0 Z rfl rfl d_law_369 ?_
            refine V_iload_n 3 Z rfl rfl d_law_370 ?_
            refine V_iconst 1 (by decide) Z d_law_371 ?_
            refine V_iadd Z d_law_372 ?_
            obtain ⟨v72, e73, h⟩ := zB_bind h
            refine V_sld Z hsc e73 d_law_373 ?_
            refine V_aload_n 0 Z rfl rfl d_law_374 ?_
            refine V_iload_n 3 Z rfl rfl d_law_375 ?_
            refine V_iconst 2 (by decide) Z d_law_376 ?_
            refine V_iadd Z d_law_377 ?_
            obtain ⟨v74, e75, h⟩ := zB_bind h
            refine V_sld Z hsc e75 d_law_378 ?_
            refine V_aload_n 0 Z rfl rfl d_law_379 ?_
            refine V_iload_n 3 Z rfl rfl d_law_380 ?_
            refine V_iconst 3 (by decide) Z d_law_381 ?_
            refine V_iadd Z d_law_382 ?_
            obtain ⟨v76, e77, h⟩ := zB_bind h
            refine V_sld Z hsc e77 d_law_383 ?_
            obtain ⟨⟨v79, M80⟩, e78, h⟩ := zB_bind h
            refine V_callV (rest := [_]) 3 Z (ok_X6_person  e78) cd_X6_person zc5 (by decide) rfl w901 w902 w903 rfl d_law_384 rfl ?_
            refine V_icmp_eq 1575 Z (by decide) d_law_387 (fun c81 => ?_) (fun c81 => ?_)
            · have h := zB_pos c81 h
              obtain ⟨n82, e83, h⟩ := zB_let h
              refine V_iinck 6 6 3 n82 [(3, Value.int n82), (0, Value.ref 4000), (1, Value.ref 0), (2, Value.ref 47)] Z (by decide) (by decide) rfl e83 rfl d_law_1575 ?_
              refine V_goto 18 Z (by decide) d_law_1578 ?_
              refine V_sub [1, 2, 3, 0] rfl ?_
              exact c1_i _ h
            · have h := zB_neg c81 h
              refine V_iconst 0 (by decide) Z d_law_390 ?_
              have h := c1_r _ h
              exact V_lawret Z hsc hy h d_law_391
          · skip
            rcases zB_ite h with ⟨c84, h⟩ | ⟨c84, h⟩
            · refine V_tabE (off := 359) 4 392 Z c84 d_law_33 (by decide) ?_
              refine V_aload_n 1 Z rfl rfl d_law_392 ?_
              refine V_aload_n 0 Z rfl rfl d_law_393 ?_
              refine V_iload_n 3 Z rfl rfl d_law_394 ?_
              refine V_iconst 1 (by decide) Z d_law_395 ?_
              refine V_iadd Z d_law_396 ?_
              obtain ⟨v85, e86, h⟩ := zB_bind h
              refine V_sld Z hsc e86 d_law_397 ?_
              refine V_aload_n 0 Z rfl rfl d_law_398 ?_
              refine V_iload_n 3 Z rfl rfl d_law_399 ?_
              refine V_iconst 2 (by decide) Z d_law_400 ?_
              refine V_iadd Z d_law_401 ?_
              obtain ⟨v87, e88, h⟩ := zB_bind h
              refine V_sld Z hsc e88 d_law_402 ?_
              obtain ⟨⟨v90, M91⟩, e89, h⟩ := zB_bind h
              refine V_callV (rest := []) 2 Z (ok_X5_personOf  e89) cd_X5_personOf zc4 (by decide) rfl w303 w304 w305 rfl d_law_403 rfl ?_
              refine V_aload_n 2 Z rfl rfl d_law_406 ?_
              refine V_aload_n 0 Z rfl rfl d_law_407 ?_
              refine V_iload_n 3 Z rfl rfl d_law_408 ?_
              refine V_iconst 1 (by decide) Z d_law_409 ?_
              refine V_iadd Z d_law_410 ?_
              obtain ⟨v92, e93, h⟩ := zB_bind h
              refine V_sld Z hsc e93 d_law_411 ?_
              refine V_aload_n 0 Z rfl rfl d_law_412 ?_
              refine V_iload_n 3 Z rfl rfl d_law_413 ?_
              refine V_iconst 2 (by decide) Z d_law_414 ?_
              refine V_iadd Z d_law_415 ?_
              obtain ⟨v94, e95, h⟩ := zB_bind h
              refine V_sld Z hsc e95 d_law_416 ?_
              obtain ⟨⟨v97, M98⟩, e96, h⟩ := zB_bind h
              refine V_callV (rest := [_]) 2 Z (ok_X6_personOf  e96) cd_X6_personOf zc5 (by decide) rfl w911 w912 w913 rfl d_law_417 rfl ?_
              refine V_icmp_eq 1575 Z (by decide) d_law_420 (fun c99 => ?_) (fun c99 => ?_)
              · have h := zB_pos c99 h
                obtain ⟨n100, e101, h⟩ := zB_let h
                refine V_iinck 6 6 3 n100 [(3, Value.int n100), (0, Value.ref 4000), (1, Value.ref 0), (2, Value.ref 47)] Z (by decide) (by decide) rfl e101 rfl d_law_1575 ?_
                refine V_goto 18 Z (by decide) d_law_1578 ?_
                refine V_sub [1, 2, 3, 0] rfl ?_
                exact c1_i _ h
              · have h := zB_neg c99 h
                refine V_iconst 0 (by decide) Z d_law_423 ?_
                have h := c1_r _ h
                exact V_lawret Z hsc hy h d_law_424
            · skip
              rcases zB_ite h with ⟨c102, h⟩ | ⟨c102, h⟩
              · refine V_tabE (off := 392) 5 425 Z c102 d_law_33 (by decide) ?_
                refine V_aload_n 1 Z rfl rfl d_law_425 ?_
                refine V_aload_n 0 Z rfl rfl d_law_426 ?_
                refine V_iload_n 3 Z rfl rfl d_law_427 ?_
                refine V_iconst 1 (by decide) Z d_law_428 ?_
                refine V_iadd Z d_law_429 ?_
                obtain ⟨v103, e104, h⟩ := zB_bind h
                refine V_sld Z hsc e104 d_law_430 ?_
                obtain ⟨⟨v106, M107⟩, e105, h⟩ := zB_bind h
                refine V_callV (rest := []) 1 Z (ok_X5_order  e105) cd_X5_order zc4 (by decide) rfl w315 w316 w317 rfl d_law_431 rfl ?_
                refine V_aload_n 2 Z rfl rfl d_law_434 ?_
                refine V_aload_n 0 Z rfl rfl d_law_435 ?_
                refine V_iload_n 3 Z rfl rfl d_law_436 ?_
                refine V_iconst 1 (by decide) Z d_law_437 ?_
                refine V_iadd Z d_law_438 ?_
                obtain ⟨v108, e109, h⟩ := zB_bind h
                refine V_sld Z hsc e109 d_law_439 ?_
                obtain ⟨⟨v111, M112⟩, e110, h⟩ := zB_bind h
                refine V_callV (rest := [_]) 1 Z (ok_X6_order  e110) cd_X6_order zc5 (by decide) rfl w926 w927 w928 rfl d_law_440 rfl ?_
                refine V_icmp_eq 1575 Z (by decide) d_law_443 (fun c113 => ?_) (fun c113 => ?_)
                · have h := zB_pos c113 h
                  obtain ⟨n114, e115, h⟩ := zB_let h
                  refine V_iinck 6 6 3 n114 [(3, Value.int n114), (0, Value.ref 4000), (1, Value.ref 0), (2, Value.ref 47)] Z (by decide) (by decide) rfl e115 rfl d_law_1575 ?_
                  refine V_goto 18 Z (by decide) d_law_1578 ?_
                  refine V_sub [1, 2, 3, 0] rfl ?_
                  exact c1_i _ h
                · have h := zB_neg c113 h
                  refine V_iconst 0 (by decide) Z d_law_446 ?_
                  have h := c1_r _ h
                  exact V_lawret Z hsc hy h d_law_447
              · skip
                rcases zB_ite h with ⟨c116, h⟩ | ⟨c116, h⟩
                · refine V_tabE (off := 415) 6 448 Z c116 d_law_33 (by decide) ?_
                  refine V_aload_n 1 Z rfl rfl d_law_448 ?_
                  refine V_aload_n 0 Z rfl rfl d_law_449 ?_
                  refine V_iload_n 3 Z rfl rfl d_law_450 ?_
                  refine V_iconst 1 (by decide) Z d_law_451 ?_
                  refine V_iadd Z d_law_452 ?_
                  obtain ⟨v117, e118, h⟩ := zB_bind h
                  refine V_sld Z hsc e118 d_law_453 ?_
                  refine V_aload_n 0 Z rfl rfl d_law_454 ?_
                  refine V_iload_n 3 Z rfl rfl d_law_455 ?_
                  refine V_iconst 2 (by decide) Z d_law_456 ?_
                  refine V_iadd Z d_law_457 ?_
                  obtain ⟨v119, e120, h⟩ := zB_bind h
                  refine V_sld Z hsc e120 d_law_458 ?_
                  obtain ⟨⟨v122, M123⟩, e121, h⟩ := zB_bind h
                  refine V_callV (rest := []) 2 Z (ok_X5_at  e121) cd_X5_at zc4 (by decide) rfl w322 w323 w324 rfl d_law_459 rfl ?_
                  refine V_aload_n 2 Z rfl rfl d_law_462 ?_
                  refine V_aload_n 0 Z rfl rfl d_law_463 ?_
                  refine V_iload_n 3 Z rfl rfl d_law_464 ?_
                  refine V_iconst 1 (by decide) Z d_law_465 ?_
                  refine V_iadd Z d_law_466 ?_
                  obtain ⟨v124, e125, h⟩ := zB_bind h
                  refine V_sld Z hsc e125 d_law_467 ?_
                  refine V_aload_n 0 Z rfl rfl d_law_468 ?_
                  refine V_iload_n 3 Z rfl rfl d_law_469 ?_
                  refine V_iconst 2 (by decide) Z d_law_470 ?_
                  refine V_iadd Z d_law_471 ?_
                  obtain ⟨v126, e127, h⟩ := zB_bind h
                  refine V_sld Z hsc e127 d_law_472 ?_
                  obtain ⟨⟨v129, M130⟩, e128, h⟩ := zB_bind h
                  refine V_callV (rest := [_]) 2 Z (ok_X6_at  e128) cd_X6_at zc5 (by decide) rfl w933 w934 w935 rfl d_law_473 rfl ?_
                  refine V_icmp_eq 1575 Z (by decide) d_law_476 (fun c131 => ?_) (fun c131 => ?_)
                  · have h := zB_pos c131 h
                    obtain ⟨n132, e133, h⟩ := zB_let h
                    refine V_iinck 6 6 3 n132 [(3, Value.int n132), (0, Value.ref 4000), (1, Value.ref 0), (2, Value.ref 47)] Z (by decide) (by decide) rfl e133 rfl d_law_1575 ?_
                    refine V_goto 18 Z (by decide) d_law_1578 ?_
                    refine V_sub [1, 2, 3, 0] rfl ?_
                    exact c1_i _ h
                  · have h := zB_neg c131 h
                    refine V_iconst 0 (by decide) Z d_law_479 ?_
                    have h := c1_r _ h
                    exact V_lawret Z hsc hy h d_law_480
                · skip
                  rcases zB_ite h with ⟨c134, h⟩ | ⟨c134, h⟩
                  · refine V_tabE (off := 448) 7 481 Z c134 d_law_33 (by decide) ?_
                    refine V_aload_n 1 Z rfl rfl d_law_481 ?_
                    refine V_aload_n 0 Z rfl rfl d_law_482 ?_
                    refine V_iload_n 3 Z rfl rfl d_law_483 ?_
                    refine V_iconst 1 (by decide) Z d_law_484 ?_
                    refine V_iadd Z d_law_485 ?_
                    obtain ⟨v135, e136, h⟩ := zB_bind h
                    refine V_sld Z hsc e136 d_law_486 ?_
                    obtain ⟨⟨v138, M139⟩, e137, h⟩ := zB_bind h
                    refine V_callV (rest := []) 1 Z (ok_X5_go  e137) cd_X5_go zc4 (by decide) rfl w327 w328 w329 rfl d_law_487 rfl ?_
                    refine V_aload_n 2 Z rfl rfl d_law_490 ?_
                    refine V_aload_n 0 Z rfl rfl d_law_491 ?_
                    refine V_iload_n 3 Z rfl rfl d_law_492 ?_
                    refine V_iconst 1 (by decide) Z d_law_493 ?_
                    refine V_iadd Z d_law_494 ?_
                    obtain ⟨v140, e141, h⟩ := zB_bind h
                    refine V_sld Z hsc e141 d_law_495 ?_
                    obtain ⟨⟨v143, M144⟩, e142, h⟩ := zB_bind h
                    refine V_callV (rest := [_]) 1 Z (ok_X6_go  e142) cd_X6_go zc5 (by decide) rfl w937 w938 w939 rfl d_law_496 rfl ?_
                    refine V_icmp_eq 1575 Z (by decide) d_law_499 (fun c145 => ?_) (fun c145 => ?_)
                    · have h := zB_pos c145 h
                      obtain ⟨n146, e147, h⟩ := zB_let h
                      refine V_iinck 6 6 3 n146 [(3, Value.int n146), (0, Value.ref 4000), (1, Value.ref 0), (2, Value.ref 47)] Z (by decide) (by decide) rfl e147 rfl d_law_1575 ?_
                      refine V_goto 18 Z (by decide) d_law_1578 ?_
                      refine V_sub [1, 2, 3, 0] rfl ?_
                      exact c1_i _ h
                    · have h := zB_neg c145 h
                      refine V_iconst 0 (by decide) Z d_law_502 ?_
                      have h := c1_r _ h
                      exact V_lawret Z hsc hy h d_law_503
                  · skip
                    rcases zB_ite h with ⟨c148, h⟩ | ⟨c148, h⟩
                    · refine V_tabE (off := 471) 8 504 Z c148 d_law_33 (by decide) ?_
                      refine V_aload_n 1 Z rfl rfl d_law_504 ?_
                      refine V_aload_n 0 Z rfl rfl d_law_505 ?_
                      refine V_iload_n 3 Z rfl rfl d_law_506 ?_
                      refine V_iconst 1 (by decide) Z d_law_507 ?_
                      refine V_iadd Z d_law_508 ?_
                      obtain ⟨v149, e150, h⟩ := zB_bind h
                      refine V_sld Z hsc e150 d_law_509 ?_
                      obtain ⟨⟨v152, M153⟩, e151, h⟩ := zB_bind h
                      refine V_callV (rest := []) 1 Z (ok_X5_now  e151) cd_X5_now zc4 (by decide) rfl w387 w388 w389 rfl d_law_510 rfl ?_
                      refine V_aload_n 2 Z rfl rfl d_law_513 ?_
                      refine V_aload_n 0 Z rfl rfl d_law_514 ?_
                      refine V_iload_n 3 Z rfl rfl d_law_515 ?_
                      refine V_iconst 1 (by decide) Z d_law_516 ?_
                      refine V_iadd Z d_law_517 ?_
                      obtain ⟨v154, e155, h⟩ := zB_bind h
                      refine V_sld Z hsc e155 d_law_518 ?_
                      obtain ⟨⟨v157, M158⟩, e156, h⟩ := zB_bind h
                      refine V_callV (rest := [_]) 1 Z (ok_X6_now  e156) cd_X6_now zc5 (by decide) rfl w971 w972 w973 rfl d_law_519 rfl ?_
                      refine V_icmp_eq 1575 Z (by decide) d_law_522 (fun c159 => ?_) (fun c159 => ?_)
                      · have h := zB_pos c159 h
                        obtain ⟨n160, e161, h⟩ := zB_let h
                        refine V_iinck 6 6 3 n160 [(3, Value.int n160), (0, Value.ref 4000), (1, Value.ref 0), (2, Value.ref 47)] Z (by decide) (by decide) rfl e161 rfl d_law_1575 ?_
                        refine V_goto 18 Z (by decide) d_law_1578 ?_
                        refine V_sub [1, 2, 3, 0] rfl ?_
                        exact c1_i _ h
                      · have h := zB_neg c159 h
                        refine V_iconst 0 (by decide) Z d_law_525 ?_
                        have h := c1_r _ h
                        exact V_lawret Z hsc hy h d_law_526
                    · skip
                      rcases zB_ite h with ⟨c162, h⟩ | ⟨c162, h⟩
                      · refine V_tabE (off := 494) 9 527 Z c162 d_law_33 (by decide) ?_
                        refine V_aload_n 1 Z rfl rfl d_law_527 ?_
                        refine V_aload_n 0 Z rfl rfl d_law_528 ?_
                        refine V_iload_n 3 Z rfl rfl d_law_529 ?_
                        refine V_iconst 1 (by decide) Z d_law_530 ?_
                        refine V_iadd Z d_law_531 ?_
                        obtain ⟨v163, e164, h⟩ := zB_bind h
                        refine V_sld Z hsc e164 d_law_532 ?_
                        refine V_aload_n 0 Z rfl rfl d_law_533 ?_
                        refine V_iload_n 3 Z rfl rfl d_law_534 ?_
                        refine V_iconst 2 (by decide) Z d_law_535 ?_
                        refine V_iadd Z d_law_536 ?_
                        obtain ⟨v165, e166, h⟩ := zB_bind h
                        refine V_sld Z hsc e166 d_law_537 ?_
                        refine V_aload_n 0 Z rfl rfl d_law_538 ?_
                        refine V_iload_n 3 Z rfl rfl d_law_539 ?_
                        refine V_iconst 3 (by decide) Z d_law_540 ?_
                        refine V_iadd Z d_law_541 ?_
                        obtain ⟨v167, e168, h⟩ := zB_bind h
                        refine V_sld Z hsc e168 d_law_542 ?_
                        obtain ⟨⟨v170, M171⟩, e169, h⟩ := zB_bind h
                        refine V_callV (rest := []) 3 Z (ok_X5_mend  e169) cd_X5_mend zc4 (by decide) rfl w396 w397 w398 rfl d_law_543 rfl ?_
                        refine V_aload_n 2 Z rfl rfl d_law_546 ?_
                        refine V_aload_n 0 Z rfl rfl d_law_547 ?_
                        refine V_iload_n 3 Z rfl rfl d_law_548 ?_
                        refine V_iconst 1 (by decide) Z d_law_549 ?_
                        refine V_iadd Z d_law_550 ?_
                        obtain ⟨v172, e173, h⟩ := zB_bind h
                        refine V_sld Z hsc e173 d_law_551 ?_
                        refine V_aload_n 0 Z rfl rfl d_law_552 ?_
                        refine V_iload_n 3 Z rfl rfl d_law_553 ?_
                        refine V_iconst 2 (by decide) Z d_law_554 ?_
                        refine V_iadd Z d_law_555 ?_
                        obtain ⟨v174, e175, h⟩ := zB_bind h
                        refine V_sld Z hsc e175 d_law_556 ?_
                        refine V_aload_n 0 Z rfl rfl d_law_557 ?_
                        refine V_iload_n 3 Z rfl rfl d_law_558 ?_
                        refine V_iconst 3 (by decide) Z d_law_559 ?_
                        refine V_iadd Z d_law_560 ?_
                        obtain ⟨v176, e177, h⟩ := zB_bind h
                        refine V_sld Z hsc e177 d_law_561 ?_
                        obtain ⟨⟨v179, M180⟩, e178, h⟩ := zB_bind h
                        refine V_callV (rest := [_]) 3 Z (ok_X6_mend  e178) cd_X6_mend zc5 (by decide) rfl w983 w984 w985 rfl d_law_562 rfl ?_
                        refine V_icmp_eq 1575 Z (by decide) d_law_565 (fun c181 => ?_) (fun c181 => ?_)
                        · have h := zB_pos c181 h
                          obtain ⟨n182, e183, h⟩ := zB_let h
                          refine V_iinck 6 6 3 n182 [(3, Value.int n182), (0, Value.ref 4000), (1, Value.ref 0), (2, Value.ref 47)] Z (by decide) (by decide) rfl e183 rfl d_law_1575 ?_
                          refine V_goto 18 Z (by decide) d_law_1578 ?_
                          refine V_sub [1, 2, 3, 0] rfl ?_
                          exact c1_i _ h
                        · have h := zB_neg c181 h
                          refine V_iconst 0 (by decide) Z d_law_568 ?_
                          have h := c1_r _ h
                          exact V_lawret Z hsc hy h d_law_569
                      · skip
                        rcases zB_ite h with ⟨c184, h⟩ | ⟨c184, h⟩
                        · refine V_tabE (off := 537) 10 570 Z c184 d_law_33 (by decide) ?_
                          refine V_aload_n 1 Z rfl rfl d_law_570 ?_
                          refine V_aload_n 0 Z rfl rfl d_law_571 ?_
                          refine V_iload_n 3 Z rfl rfl d_law_572 ?_
                          refine V_iconst 1 (by decide) Z d_law_573 ?_
                          refine V_iadd Z d_law_574 ?_
                          obtain ⟨v185, e186, h⟩ := zB_bind h
                          refine V_sld Z hsc e186 d_law_575 ?_
                          obtain ⟨⟨v188, M189⟩, e187, h⟩ := zB_bind h
                          refine V_callV (rest := []) 1 Z (ok_X5_wears  e187) cd_X5_wears zc4 (by decide) rfl w403 w404 w405 rfl d_law_576 rfl ?_
                          refine V_aload_n 2 Z rfl rfl d_law_579 ?_
                          refine V_aload_n 0 Z rfl rfl d_law_580 ?_
                          refine V_iload_n 3 Z rfl rfl d_law_581 ?_
                          refine V_iconst 1 (by decide) Z d_law_582 ?_
                          refine V_iadd Z d_law_583 ?_
                          obtain ⟨v190, e191, h⟩ := zB_bind h
                          refine V_sld Z hsc e191 d_law_584 ?_
                          obtain ⟨⟨v193, M194⟩, e192, h⟩ := zB_bind h
                          refine V_callV (rest := [_]) 1 Z (ok_X6_wears  e192) cd_X6_wears zc5 (by decide) rfl w987 w988 w989 rfl d_law_585 rfl ?_
                          refine V_icmp_eq 1575 Z (by decide) d_law_588 (fun c195 => ?_) (fun c195 => ?_)
                          · have h := zB_pos c195 h
                            obtain ⟨n196, e197, h⟩ := zB_let h
                            refine V_iinck 6 6 3 n196 [(3, Value.int n196), (0, Value.ref 4000), (1, Value.ref 0), (2, Value.ref 47)] Z (by decide) (by decide) rfl e197 rfl d_law_1575 ?_
                            refine V_goto 18 Z (by decide) d_law_1578 ?_
                            refine V_sub [1, 2, 3, 0] rfl ?_
                            exact c1_i _ h
                          · have h := zB_neg c195 h
                            refine V_iconst 0 (by decide) Z d_law_591 ?_
                            have h := c1_r _ h
                            exact V_lawret Z hsc hy h d_law_592
                        · skip
                          rcases zB_ite h with ⟨c198, h⟩ | ⟨c198, h⟩
                          · refine V_tabE (off := 560) 11 593 Z c198 d_law_33 (by decide) ?_
                            refine V_aload_n 1 Z rfl rfl d_law_593 ?_
                            refine V_aload_n 0 Z rfl rfl d_law_594 ?_
                            refine V_iload_n 3 Z rfl rfl d_law_595 ?_
                            refine V_iconst 1 (by decide) Z d_law_596 ?_
                            refine V_iadd Z d_law_597 ?_
                            obtain ⟨v199, e200, h⟩ := zB_bind h
                            refine V_sld Z hsc e200 d_law_598 ?_
                            refine V_aload_n 0 Z rfl rfl d_law_599 ?_
                            refine V_iload_n 3 Z rfl rfl d_law_600 ?_
                            refine V_iconst 2 (by decide) Z d_law_601 ?_
                            refine V_iadd Z d_law_602 ?_
                            obtain ⟨v201, e202, h⟩ := zB_bind h
                            refine V_sld Z hsc e202 d_law_603 ?_
                            obtain ⟨⟨v204, M205⟩, e203, h⟩ := zB_bind h
                            refine V_callV (rest := []) 2 Z (ok_X5_ahead  e203) cd_X5_ahead zc4 (by decide) rfl w408 w409 w410 rfl d_law_604 rfl ?_
                            refine V_aload_n 2 Z rfl rfl d_law_607 ?_
                            refine V_aload_n 0 Z rfl rfl d_law_608 ?_
                            refine V_iload_n 3 Z rfl rfl d_law_609 ?_
                            refine V_iconst 1 (by decide) Z d_law_610 ?_
                            refine V_iadd Z d_law_611 ?_
                            obtain ⟨v206, e207, h⟩ := zB_bind h
                            refine V_sld Z hsc e207 d_law_612 ?_
                            refine V_aload_n 0 Z rfl rfl d_law_613 ?_
                            refine V_iload_n 3 Z rfl rfl d_law_614 ?_
                            refine V_iconst 2 (by decide) Z d_law_615 ?_
                            refine V_iadd Z d_law_616 ?_
                            obtain ⟨v208, e209, h⟩ := zB_bind h
                            refine V_sld Z hsc e209 d_law_617 ?_
                            obtain ⟨⟨v211, M212⟩, e210, h⟩ := zB_bind h
                            refine V_callV (rest := [_]) 2 Z (ok_X6_ahead  e210) cd_X6_ahead zc5 (by decide) rfl w991 w992 w993 rfl d_law_618 rfl ?_
                            refine V_icmp_eq 1575 Z (by decide) d_law_621 (fun c213 => ?_) (fun c213 => ?_)
                            · have h := zB_pos c213 h
                              obtain ⟨n214, e215, h⟩ := zB_let h
                              refine V_iinck 6 6 3 n214 [(3, Value.int n214), (0, Value.ref 4000), (1, Value.ref 0), (2, Value.ref 47)] Z (by decide) (by decide) rfl e215 rfl d_law_1575 ?_
                              refine V_goto 18 Z (by decide) d_law_1578 ?_
                              refine V_sub [1, 2, 3, 0] rfl ?_
                              exact c1_i _ h
                            · have h := zB_neg c213 h
                              refine V_iconst 0 (by decide) Z d_law_624 ?_
                              have h := c1_r _ h
                              exact V_lawret Z hsc hy h d_law_625
                          · skip
                            rcases zB_ite h with ⟨c216, h⟩ | ⟨c216, h⟩
                            · refine V_tabE (off := 593) 12 626 Z c216 d_law_33 (by decide) ?_
                              refine V_aload_n 1 Z rfl rfl d_law_626 ?_
                              refine V_aload_n 0 Z rfl rfl d_law_627 ?_
                              refine V_iload_n 3 Z rfl rfl d_law_628 ?_
                              refine V_iconst 1 (by decide) Z d_law_629 ?_
                              refine V_iadd Z d_law_630 ?_
                              obtain ⟨v217, e218, h⟩ := zB_bind h
                              refine V_sld Z hsc e218 d_law_631 ?_
                              refine V_aload_n 0 Z rfl rfl d_law_632 ?_
                              refine V_iload_n 3 Z rfl rfl d_law_633 ?_
                              refine V_iconst 2 (by decide) Z d_law_634 ?_
                              refine V_iadd Z d_law_635 ?_
                              obtain ⟨v219, e220, h⟩ := zB_bind h
                              refine V_sld Z hsc e220 d_law_636 ?_
                              obtain ⟨⟨v222, M223⟩, e221, h⟩ := zB_bind h
                              refine V_callV (rest := []) 2 Z (ok_X5_owes  e221) cd_X5_owes zc4 (by decide) rfl w419 w420 w421 rfl d_law_637 rfl ?_
                              refine V_aload_n 2 Z rfl rfl d_law_640 ?_
                              refine V_aload_n 0 Z rfl rfl d_law_641 ?_
                              refine V_iload_n 3 Z rfl rfl d_law_642 ?_
                              refine V_iconst 1 (by decide) Z d_law_643 ?_
                              refine V_iadd Z d_law_644 ?_
                              obtain ⟨v224, e225, h⟩ := zB_bind h
                              refine V_sld Z hsc e225 d_law_645 ?_
                              refine V_aload_n 0 Z rfl rfl d_law_646 ?_
                              refine V_iload_n 3 Z rfl rfl d_law_647 ?_
                              refine V_iconst 2 (by decide) Z d_law_648 ?_
                              refine V_iadd Z d_law_649 ?_
                              obtain ⟨v226, e227, h⟩ := zB_bind h
                              refine V_sld Z hsc e227 d_law_650 ?_
                              obtain ⟨⟨v229, M230⟩, e228, h⟩ := zB_bind h
                              refine V_callV (rest := [_]) 2 Z (ok_X6_owes  e228) cd_X6_owes zc5 (by decide) rfl w1006 w1007 w1008 rfl d_law_651 rfl ?_
                              refine V_icmp_eq 1575 Z (by decide) d_law_654 (fun c231 => ?_) (fun c231 => ?_)
                              · have h := zB_pos c231 h
                                obtain ⟨n232, e233, h⟩ := zB_let h
                                refine V_iinck 6 6 3 n232 [(3, Value.int n232), (0, Value.ref 4000), (1, Value.ref 0), (2, Value.ref 47)] Z (by decide) (by decide) rfl e233 rfl d_law_1575 ?_
                                refine V_goto 18 Z (by decide) d_law_1578 ?_
                                refine V_sub [1, 2, 3, 0] rfl ?_
                                exact c1_i _ h
                              · have h := zB_neg c231 h
                                refine V_iconst 0 (by decide) Z d_law_657 ?_
                                have h := c1_r _ h
                                exact V_lawret Z hsc hy h d_law_658
                            · skip
                              rcases zB_ite h with ⟨c234, h⟩ | ⟨c234, h⟩
                              · refine V_tabE (off := 626) 13 659 Z c234 d_law_33 (by decide) ?_
                                refine V_aload_n 1 Z rfl rfl d_law_659 ?_
                                refine V_aload_n 0 Z rfl rfl d_law_660 ?_
                                refine V_iload_n 3 Z rfl rfl d_law_661 ?_
                                refine V_iconst 1 (by decide) Z d_law_662 ?_
                                refine V_iadd Z d_law_663 ?_
                                obtain ⟨v235, e236, h⟩ := zB_bind h
                                refine V_sld Z hsc e236 d_law_664 ?_
                                obtain ⟨⟨v238, M239⟩, e237, h⟩ := zB_bind h
                                refine V_callV (rest := []) 1 Z (ok_X5_lasts  e237) cd_X5_lasts zc4 (by decide) rfl w423 w424 w425 rfl d_law_665 rfl ?_
                                refine V_aload_n 2 Z rfl rfl d_law_668 ?_
                                refine V_aload_n 0 Z rfl rfl d_law_669 ?_
                                refine V_iload_n 3 Z rfl rfl d_law_670 ?_
                                refine V_iconst 1 (by decide) Z d_law_671 ?_
                                refine V_iadd Z d_law_672 ?_
                                obtain ⟨v240, e241, h⟩ := zB_bind h
                                refine V_sld Z hsc e241 d_law_673 ?_
                                obtain ⟨⟨v243, M244⟩, e242, h⟩ := zB_bind h
                                refine V_callV (rest := [_]) 1 Z (ok_X6_lasts  e242) cd_X6_lasts zc5 (by decide) rfl w1010 w1011 w1012 rfl d_law_674 rfl ?_
                                refine V_icmp_eq 1575 Z (by decide) d_law_677 (fun c245 => ?_) (fun c245 => ?_)
                                · have h := zB_pos c245 h
                                  obtain ⟨n246, e247, h⟩ := zB_let h
                                  refine V_iinck 6 6 3 n246 [(3, Value.int n246), (0, Value.ref 4000), (1, Value.ref 0), (2, Value.ref 47)] Z (by decide) (by decide) rfl e247 rfl d_law_1575 ?_
                                  refine V_goto 18 Z (by decide) d_law_1578 ?_
                                  refine V_sub [1, 2, 3, 0] rfl ?_
                                  exact c1_i _ h
                                · have h := zB_neg c245 h
                                  refine V_iconst 0 (by decide) Z d_law_680 ?_
                                  have h := c1_r _ h
                                  exact V_lawret Z hsc hy h d_law_681
                              · skip
                                rcases zB_ite h with ⟨c248, h⟩ | ⟨c248, h⟩
                                · refine V_tabE (off := 649) 14 682 Z c248 d_law_33 (by decide) ?_
                                  refine V_aload_n 1 Z rfl rfl d_law_682 ?_
                                  refine V_aload_n 0 Z rfl rfl d_law_683 ?_
                                  refine V_iload_n 3 Z rfl rfl d_law_684 ?_
                                  refine V_iconst 1 (by decide) Z d_law_685 ?_
                                  refine V_iadd Z d_law_686 ?_
                                  obtain ⟨v249, e250, h⟩ := zB_bind h
                                  refine V_sld Z hsc e250 d_law_687 ?_
                                  obtain ⟨⟨v252, M253⟩, e251, h⟩ := zB_bind h
                                  refine V_callV (rest := []) 1 Z (ok_X5_broke  e251) cd_X5_broke zc4 (by decide) rfl w431 w432 w433 rfl d_law_688 rfl ?_
                                  refine V_aload_n 2 Z rfl rfl d_law_691 ?_
                                  refine V_aload_n 0 Z rfl rfl d_law_692 ?_
                                  refine V_iload_n 3 Z rfl rfl d_law_693 ?_
                                  refine V_iconst 1 (by decide) Z d_law_694 ?_
                                  refine V_iadd Z d_law_695 ?_
                                  obtain ⟨v254, e255, h⟩ := zB_bind h
                                  refine V_sld Z hsc e255 d_law_696 ?_
                                  obtain ⟨⟨v257, M258⟩, e256, h⟩ := zB_bind h
                                  refine V_callV (rest := [_]) 1 Z (ok_X6_broke  e256) cd_X6_broke zc5 (by decide) rfl w1019 w1020 w1021 rfl d_law_697 rfl ?_
                                  refine V_icmp_eq 1575 Z (by decide) d_law_700 (fun c259 => ?_) (fun c259 => ?_)
                                  · have h := zB_pos c259 h
                                    obtain ⟨n260, e261, h⟩ := zB_let h
                                    refine V_iinck 6 6 3 n260 [(3, Value.int n260), (0, Value.ref 4000), (1, Value.ref 0), (2, Value.ref 47)] Z (by decide) (by decide) rfl e261 rfl d_law_1575 ?_
                                    refine V_goto 18 Z (by decide) d_law_1578 ?_
                                    refine V_sub [1, 2, 3, 0] rfl ?_
                                    exact c1_i _ h
                                  · have h := zB_neg c259 h
                                    refine V_iconst 0 (by decide) Z d_law_703 ?_
                                    have h := c1_r _ h
                                    exact V_lawret Z hsc hy h d_law_704
                                · skip
                                  rcases zB_ite h with ⟨c262, h⟩ | ⟨c262, h⟩
                                  · refine V_tabE (off := 672) 15 705 Z c262 d_law_33 (by decide) ?_
                                    refine V_aload_n 1 Z rfl rfl d_law_705 ?_
                                    refine V_aload_n 0 Z rfl rfl d_law_706 ?_
                                    refine V_iload_n 3 Z rfl rfl d_law_707 ?_
                                    refine V_iconst 1 (by decide) Z d_law_708 ?_
                                    refine V_iadd Z d_law_709 ?_
                                    obtain ⟨v263, e264, h⟩ := zB_bind h
                                    refine V_sld Z hsc e264 d_law_710 ?_
                                    refine V_aload_n 0 Z rfl rfl d_law_711 ?_
                                    refine V_iload_n 3 Z rfl rfl d_law_712 ?_
                                    refine V_iconst 2 (by decide) Z d_law_713 ?_
                                    refine V_iadd Z d_law_714 ?_
                                    obtain ⟨v265, e266, h⟩ := zB_bind h
                                    refine V_sld Z hsc e266 d_law_715 ?_
                                    refine V_aload_n 0 Z rfl rfl d_law_716 ?_
                                    refine V_iload_n 3 Z rfl rfl d_law_717 ?_
                                    refine V_iconst 3 (by decide) Z d_law_718 ?_
                                    refine V_iadd Z d_law_719 ?_
                                    obtain ⟨v267, e268, h⟩ := zB_bind h
                                    refine V_sld Z hsc e268 d_law_720 ?_
                                    obtain ⟨⟨v270, M271⟩, e269, h⟩ := zB_bind h
                                    refine V_callV (rest := []) 3 Z (ok_X5_often  e269) cd_X5_often zc4 (by decide) rfl w436 w437 w438 rfl d_law_721 rfl ?_
                                    refine V_aload_n 2 Z rfl rfl d_law_724 ?_
                                    refine V_aload_n 0 Z rfl rfl d_law_725 ?_
                                    refine V_iload_n 3 Z rfl rfl d_law_726 ?_
                                    refine V_iconst 1 (by decide) Z d_law_727 ?_
                                    refine V_iadd Z d_law_728 ?_
                                    obtain ⟨v272, e273, h⟩ := zB_bind h
                                    refine V_sld Z hsc e273 d_law_729 ?_
                                    refine V_aload_n 0 Z rfl rfl d_law_730 ?_
                                    refine V_iload_n 3 Z rfl rfl d_law_731 ?_
                                    refine V_iconst 2 (by decide) Z d_law_732 ?_
                                    refine V_iadd Z d_law_733 ?_
                                    obtain ⟨v274, e275, h⟩ := zB_bind h
                                    refine V_sld Z hsc e275 d_law_734 ?_
                                    refine V_aload_n 0 Z rfl rfl d_law_735 ?_
                                    refine V_iload_n 3 Z rfl rfl d_law_736 ?_
                                    refine V_iconst 3 (by decide) Z d_law_737 ?_
                                    refine V_iadd Z d_law_738 ?_
                                    obtain ⟨v276, e277, h⟩ := zB_bind h
                                    refine V_sld Z hsc e277 d_law_739 ?_
                                    obtain ⟨⟨v279, M280⟩, e278, h⟩ := zB_bind h
                                    refine V_callV (rest := [_]) 3 Z (ok_X6_often  e278) cd_X6_often zc5 (by decide) rfl w1027 w1028 w1029 rfl d_law_740 rfl ?_
                                    refine V_icmp_eq 1575 Z (by decide) d_law_743 (fun c281 => ?_) (fun c281 => ?_)
                                    · have h := zB_pos c281 h
                                      obtain ⟨n282, e283, h⟩ := zB_let h
                                      refine V_iinck 6 6 3 n282 [(3, Value.int n282), (0, Value.ref 4000), (1, Value.ref 0), (2, Value.ref 47)] Z (by decide) (by decide) rfl e283 rfl d_law_1575 ?_
                                      refine V_goto 18 Z (by decide) d_law_1578 ?_
                                      refine V_sub [1, 2, 3, 0] rfl ?_
                                      exact c1_i _ h
                                    · have h := zB_neg c281 h
                                      refine V_iconst 0 (by decide) Z d_law_746 ?_
                                      have h := c1_r _ h
                                      exact V_lawret Z hsc hy h d_law_747
                                  · skip
                                    rcases zB_ite h with ⟨c284, h⟩ | ⟨c284, h⟩
                                    · refine V_tabE (off := 715) 16 748 Z c284 d_law_33 (by decide) ?_
                                      refine V_aload_n 1 Z rfl rfl d_law_748 ?_
                                      refine V_aload_n 0 Z rfl rfl d_law_749 ?_
                                      refine V_iload_n 3 Z rfl rfl d_law_750 ?_
                                      refine V_iconst 1 (by decide) Z d_law_751 ?_
                                      refine V_iadd Z d_law_752 ?_
                                      obtain ⟨v285, e286, h⟩ := zB_bind h
                                      refine V_sld Z hsc e286 d_law_753 ?_
                                      obtain ⟨⟨v288, M289⟩, e287, h⟩ := zB_bind h
                                      refine V_callV (rest := []) 1 Z (ok_X5_kindFor  e287) cd_X5_kindFor zc4 (by decide) rfl w440 w441 w442 rfl d_law_754 rfl ?_
                                      refine V_aload_n 2 Z rfl rfl d_law_757 ?_
                                      refine V_aload_n 0 Z rfl rfl d_law_758 ?_
                                      refine V_iload_n 3 Z rfl rfl d_law_759 ?_
                                      refine V_iconst 1 (by decide) Z d_law_760 ?_
                                      refine V_iadd Z d_law_761 ?_
                                      obtain ⟨v290, e291, h⟩ := zB_bind h
                                      refine V_sld Z hsc e291 d_law_762 ?_
                                      obtain ⟨⟨v293, M294⟩, e292, h⟩ := zB_bind h
                                      refine V_callV (rest := [_]) 1 Z (ok_X6_kindFor  e292) cd_X6_kindFor zc5 (by decide) rfl w1031 w1032 w1033 rfl d_law_763 rfl ?_
                                      refine V_icmp_eq 1575 Z (by decide) d_law_766 (fun c295 => ?_) (fun c295 => ?_)
                                      · have h := zB_pos c295 h
                                        obtain ⟨n296, e297, h⟩ := zB_let h
                                        refine V_iinck 6 6 3 n296 [(3, Value.int n296), (0, Value.ref 4000), (1, Value.ref 0), (2, Value.ref 47)] Z (by decide) (by decide) rfl e297 rfl d_law_1575 ?_
                                        refine V_goto 18 Z (by decide) d_law_1578 ?_
                                        refine V_sub [1, 2, 3, 0] rfl ?_
                                        exact c1_i _ h
                                      · have h := zB_neg c295 h
                                        refine V_iconst 0 (by decide) Z d_law_769 ?_
                                        have h := c1_r _ h
                                        exact V_lawret Z hsc hy h d_law_770
                                    · skip
                                      rcases zB_ite h with ⟨c298, h⟩ | ⟨c298, h⟩
                                      · refine V_tabE (off := 738) 17 771 Z c298 d_law_33 (by decide) ?_
                                        refine V_aload_n 1 Z rfl rfl d_law_771 ?_
                                        refine V_aload_n 0 Z rfl rfl d_law_772 ?_
                                        refine V_iload_n 3 Z rfl rfl d_law_773 ?_
                                        refine V_iconst 1 (by decide) Z d_law_774 ?_
                                        refine V_iadd Z d_law_775 ?_
                                        obtain ⟨v299, e300, h⟩ := zB_bind h
                                        refine V_sld Z hsc e300 d_law_776 ?_
                                        refine V_aload_n 0 Z rfl rfl d_law_777 ?_
                                        refine V_iload_n 3 Z rfl rfl d_law_778 ?_
                                        refine V_iconst 2 (by decide) Z d_law_779 ?_
                                        refine V_iadd Z d_law_780 ?_
                                        obtain ⟨v301, e302, h⟩ := zB_bind h
                                        refine V_sld Z hsc e302 d_law_781 ?_
                                        obtain ⟨⟨v304, M305⟩, e303, h⟩ := zB_bind h
                                        refine V_callV (rest := []) 2 Z (ok_X5_orderFor  e303) cd_X5_orderFor zc4 (by decide) rfl w445 w446 w447 rfl d_law_782 rfl ?_
                                        refine V_aload_n 2 Z rfl rfl d_law_785 ?_
                                        refine V_aload_n 0 Z rfl rfl d_law_786 ?_
                                        refine V_iload_n 3 Z rfl rfl d_law_787 ?_
                                        refine V_iconst 1 (by decide) Z d_law_788 ?_
                                        refine V_iadd Z d_law_789 ?_
                                        obtain ⟨v306, e307, h⟩ := zB_bind h
                                        refine V_sld Z hsc e307 d_law_790 ?_
                                        refine V_aload_n 0 Z rfl rfl d_law_791 ?_
                                        refine V_iload_n 3 Z rfl rfl d_law_792 ?_
                                        refine V_iconst 2 (by decide) Z d_law_793 ?_
                                        refine V_iadd Z d_law_794 ?_
                                        obtain ⟨v308, e309, h⟩ := zB_bind h
                                        refine V_sld Z hsc e309 d_law_795 ?_
                                        obtain ⟨⟨v311, M312⟩, e310, h⟩ := zB_bind h
                                        refine V_callV (rest := [_]) 2 Z (ok_X6_orderFor  e310) cd_X6_orderFor zc5 (by decide) rfl w1035 w1036 w1037 rfl d_law_796 rfl ?_
                                        refine V_icmp_eq 1575 Z (by decide) d_law_799 (fun c313 => ?_) (fun c313 => ?_)
                                        · have h := zB_pos c313 h
                                          obtain ⟨n314, e315, h⟩ := zB_let h
                                          refine V_iinck 6 6 3 n314 [(3, Value.int n314), (0, Value.ref 4000), (1, Value.ref 0), (2, Value.ref 47)] Z (by decide) (by decide) rfl e315 rfl d_law_1575 ?_
                                          refine V_goto 18 Z (by decide) d_law_1578 ?_
                                          refine V_sub [1, 2, 3, 0] rfl ?_
                                          exact c1_i _ h
                                        · have h := zB_neg c313 h
                                          refine V_iconst 0 (by decide) Z d_law_802 ?_
                                          have h := c1_r _ h
                                          exact V_lawret Z hsc hy h d_law_803
                                      · skip
                                        rcases zB_ite h with ⟨c316, h⟩ | ⟨c316, h⟩
                                        · refine V_tabE (off := 771) 18 804 Z c316 d_law_33 (by decide) ?_
                                          refine V_aload_n 1 Z rfl rfl d_law_804 ?_
                                          refine V_aload_n 0 Z rfl rfl d_law_805 ?_
                                          refine V_iload_n 3 Z rfl rfl d_law_806 ?_
                                          refine V_iconst 1 (by decide) Z d_law_807 ?_
                                          refine V_iadd Z d_law_808 ?_
                                          obtain ⟨v317, e318, h⟩ := zB_bind h
                                          refine V_sld Z hsc e318 d_law_809 ?_
                                          refine V_aload_n 0 Z rfl rfl d_law_810 ?_
                                          refine V_iload_n 3 Z rfl rfl d_law_811 ?_
                                          refine V_iconst 2 (by decide) Z d_law_812 ?_
                                          refine V_iadd Z d_law_813 ?_
                                          obtain ⟨v319, e320, h⟩ := zB_bind h
                                          refine V_sld Z hsc e320 d_law_814 ?_
                                          obtain ⟨⟨v322, M323⟩, e321, h⟩ := zB_bind h
                                          refine V_callV (rest := []) 2 Z (ok_X5_orders  e321) cd_X5_orders zc4 (by decide) rfl w449 w450 w451 rfl d_law_815 rfl ?_
                                          refine V_aload_n 2 Z rfl rfl d_law_818 ?_
                                          refine V_aload_n 0 Z rfl rfl d_law_819 ?_
                                          refine V_iload_n 3 Z rfl rfl d_law_820 ?_
                                          refine V_iconst 1 (by decide) Z d_law_821 ?_
                                          refine V_iadd Z d_law_822 ?_
                                          obtain ⟨v324, e325, h⟩ := zB_bind h
                                          refine V_sld Z hsc e325 d_law_823 ?_
                                          refine V_aload_n 0 Z rfl rfl d_law_824 ?_
                                          refine V_iload_n 3 Z rfl rfl d_law_825 ?_
                                          refine V_iconst 2 (by decide) Z d_law_826 ?_
                                          refine V_iadd Z d_law_827 ?_
                                          obtain ⟨v326, e327, h⟩ := zB_bind h
                                          refine V_sld Z hsc e327 d_law_828 ?_
                                          obtain ⟨⟨v329, M330⟩, e328, h⟩ := zB_bind h
                                          refine V_callV (rest := [_]) 2 Z (ok_X6_orders  e328) cd_X6_orders zc5 (by decide) rfl w1043 w1044 w1045 rfl d_law_829 rfl ?_
                                          refine V_icmp_eq 1575 Z (by decide) d_law_832 (fun c331 => ?_) (fun c331 => ?_)
                                          · have h := zB_pos c331 h
                                            obtain ⟨n332, e333, h⟩ := zB_let h
                                            refine V_iinck 6 6 3 n332 [(3, Value.int n332), (0, Value.ref 4000), (1, Value.ref 0), (2, Value.ref 47)] Z (by decide) (by decide) rfl e333 rfl d_law_1575 ?_
                                            refine V_goto 18 Z (by decide) d_law_1578 ?_
                                            refine V_sub [1, 2, 3, 0] rfl ?_
                                            exact c1_i _ h
                                          · have h := zB_neg c331 h
                                            refine V_iconst 0 (by decide) Z d_law_835 ?_
                                            have h := c1_r _ h
                                            exact V_lawret Z hsc hy h d_law_836
                                        · skip
                                          rcases zB_ite h with ⟨c334, h⟩ | ⟨c334, h⟩
                                          · refine V_tabE (off := 804) 19 837 Z c334 d_law_33 (by decide) ?_
                                            refine V_aload_n 1 Z rfl rfl d_law_837 ?_
                                            obtain ⟨⟨v336, M337⟩, e335, h⟩ := zB_bind h
                                            refine V_callV (rest := []) 0 Z (ok_X5_cheapest  e335) cd_X5_cheapest zc4 (by decide) rfl w453 w454 w455 rfl d_law_838 rfl ?_
                                            refine V_aload_n 2 Z rfl rfl d_law_841 ?_
                                            obtain ⟨⟨v339, M340⟩, e338, h⟩ := zB_bind h
                                            refine V_callV (rest := [_]) 0 Z (ok_X6_cheapest  e338) cd_X6_cheapest zc5 (by decide) rfl w1047 w1048 w1049 rfl d_law_842 rfl ?_
                                            refine V_icmp_eq 1575 Z (by decide) d_law_845 (fun c341 => ?_) (fun c341 => ?_)
                                            · have h := zB_pos c341 h
                                              obtain ⟨n342, e343, h⟩ := zB_let h
                                              refine V_iinck 6 6 3 n342 [(3, Value.int n342), (0, Value.ref 4000), (1, Value.ref 0), (2, Value.ref 47)] Z (by decide) (by decide) rfl e343 rfl d_law_1575 ?_
                                              refine V_goto 18 Z (by decide) d_law_1578 ?_
                                              refine V_sub [1, 2, 3, 0] rfl ?_
                                              exact c1_i _ h
                                            · have h := zB_neg c341 h
                                              refine V_iconst 0 (by decide) Z d_law_848 ?_
                                              have h := c1_r _ h
                                              exact V_lawret Z hsc hy h d_law_849
                                          · skip
                                            rcases zB_ite h with ⟨c344, h⟩ | ⟨c344, h⟩
                                            · refine V_tabE (off := 817) 20 850 Z c344 d_law_33 (by decide) ?_
                                              refine V_aload_n 1 Z rfl rfl d_law_850 ?_
                                              obtain ⟨⟨v346, M347⟩, e345, h⟩ := zB_bind h
                                              refine V_callV (rest := []) 0 Z (ok_X5_calmest  e345) cd_X5_calmest zc4 (by decide) rfl w461 w462 w463 rfl d_law_851 rfl ?_
                                              refine V_aload_n 2 Z rfl rfl d_law_854 ?_
                                              obtain ⟨⟨v349, M350⟩, e348, h⟩ := zB_bind h
                                              refine V_callV (rest := [_]) 0 Z (ok_X6_calmest  e348) cd_X6_calmest zc5 (by decide) rfl w1060 w1061 w1062 rfl d_law_855 rfl ?_
                                              refine V_icmp_eq 1575 Z (by decide) d_law_858 (fun c351 => ?_) (fun c351 => ?_)
                                              · have h := zB_pos c351 h
                                                obtain ⟨n352, e353, h⟩ := zB_let h
                                                refine V_iinck 6 6 3 n352 [(3, Value.int n352), (0, Value.ref 4000), (1, Value.ref 0), (2, Value.ref 47)] Z (by decide) (by decide) rfl e353 rfl d_law_1575 ?_
                                                refine V_goto 18 Z (by decide) d_law_1578 ?_
                                                refine V_sub [1, 2, 3, 0] rfl ?_
                                                exact c1_i _ h
                                              · have h := zB_neg c351 h
                                                refine V_iconst 0 (by decide) Z d_law_861 ?_
                                                have h := c1_r _ h
                                                exact V_lawret Z hsc hy h d_law_862
                                            · skip
                                              rcases zB_ite h with ⟨c354, h⟩ | ⟨c354, h⟩
                                              · refine V_tabE (off := 830) 21 863 Z c354 d_law_33 (by decide) ?_
                                                refine V_aload_n 1 Z rfl rfl d_law_863 ?_
                                                refine V_aload_n 0 Z rfl rfl d_law_864 ?_
                                                refine V_iload_n 3 Z rfl rfl d_law_865 ?_
                                                refine V_iconst 1 (by decide) Z d_law_866 ?_
                                                refine V_iadd Z d_law_867 ?_
                                                obtain ⟨v355, e356, h⟩ := zB_bind h
                                                refine V_sld Z hsc e356 d_law_868 ?_
                                                refine V_aload_n 0 Z rfl rfl d_law_869 ?_
                                                refine V_iload_n 3 Z rfl rfl d_law_870 ?_
                                                refine V_iconst 2 (by decide) Z d_law_871 ?_
                                                refine V_iadd Z d_law_872 ?_
                                                obtain ⟨v357, e358, h⟩ := zB_bind h
                                                refine V_sld Z hsc e358 d_law_873 ?_
                                                obtain ⟨⟨v360, M361⟩, e359, h⟩ := zB_bind h
                                                refine V_callV (rest := []) 2 Z (ok_X5_best  e359) cd_X5_best zc4 (by decide) rfl w466 w467 w468 rfl d_law_874 rfl ?_
                                                refine V_aload_n 2 Z rfl rfl d_law_877 ?_
                                                refine V_aload_n 0 Z rfl rfl d_law_878 ?_
                                                refine V_iload_n 3 Z rfl rfl d_law_879 ?_
                                                refine V_iconst 1 (by decide) Z d_law_880 ?_
                                                refine V_iadd Z d_law_881 ?_
                                                obtain ⟨v362, e363, h⟩ := zB_bind h
                                                refine V_sld Z hsc e363 d_law_882 ?_
                                                refine V_aload_n 0 Z rfl rfl d_law_883 ?_
                                                refine V_iload_n 3 Z rfl rfl d_law_884 ?_
                                                refine V_iconst 2 (by decide) Z d_law_885 ?_
                                                refine V_iadd Z d_law_886 ?_
                                                obtain ⟨v364, e365, h⟩ := zB_bind h
                                                refine V_sld Z hsc e365 d_law_887 ?_
                                                obtain ⟨⟨v367, M368⟩, e366, h⟩ := zB_bind h
                                                refine V_callV (rest := [_]) 2 Z (ok_X6_best  e366) cd_X6_best zc5 (by decide) rfl w1064 w1065 w1066 rfl d_law_888 rfl ?_
                                                refine V_icmp_eq 1575 Z (by decide) d_law_891 (fun c369 => ?_) (fun c369 => ?_)
                                                · have h := zB_pos c369 h
                                                  obtain ⟨n370, e371, h⟩ := zB_let h
                                                  refine V_iinck 6 6 3 n370 [(3, Value.int n370), (0, Value.ref 4000), (1, Value.ref 0), (2, Value.ref 47)] Z (by decide) (by decide) rfl e371 rfl d_law_1575 ?_
                                                  refine V_goto 18 Z (by decide) d_law_1578 ?_
                                                  refine V_sub [1, 2, 3, 0] rfl ?_
                                                  exact c1_i _ h
                                                · have h := zB_neg c369 h
                                                  refine V_iconst 0 (by decide) Z d_law_894 ?_
                                                  have h := c1_r _ h
                                                  exact V_lawret Z hsc hy h d_law_895
                                              · skip
                                                rcases zB_ite h with ⟨c372, h⟩ | ⟨c372, h⟩
                                                · refine V_tabE (off := 863) 22 896 Z c372 d_law_33 (by decide) ?_
                                                  refine V_aload_n 1 Z rfl rfl d_law_896 ?_
                                                  refine V_aload_n 0 Z rfl rfl d_law_897 ?_
                                                  refine V_iload_n 3 Z rfl rfl d_law_898 ?_
                                                  refine V_iconst 1 (by decide) Z d_law_899 ?_
                                                  refine V_iadd Z d_law_900 ?_
                                                  obtain ⟨v373, e374, h⟩ := zB_bind h
                                                  refine V_sld Z hsc e374 d_law_901 ?_
                                                  refine V_aload_n 0 Z rfl rfl d_law_902 ?_
                                                  refine V_iload_n 3 Z rfl rfl d_law_903 ?_
                                                  refine V_iconst 2 (by decide) Z d_law_904 ?_
                                                  refine V_iadd Z d_law_905 ?_
                                                  obtain ⟨v375, e376, h⟩ := zB_bind h
                                                  refine V_sld Z hsc e376 d_law_906 ?_
                                                  obtain ⟨⟨v378, M379⟩, e377, h⟩ := zB_bind h
                                                  refine V_callV (rest := []) 2 Z (ok_X5_wishFor  e377) cd_X5_wishFor zc4 (by decide) rfl w470 w471 w472 rfl d_law_907 rfl ?_
                                                  refine V_aload_n 2 Z rfl rfl d_law_910 ?_
                                                  refine V_aload_n 0 Z rfl rfl d_law_911 ?_
                                                  refine V_iload_n 3 Z rfl rfl d_law_912 ?_
                                                  refine V_iconst 1 (by decide) Z d_law_913 ?_
                                                  refine V_iadd Z d_law_914 ?_
                                                  obtain ⟨v380, e381, h⟩ := zB_bind h
                                                  refine V_sld Z hsc e381 d_law_915 ?_
                                                  refine V_aload_n 0 Z rfl rfl d_law_916 ?_
                                                  refine V_iload_n 3 Z rfl rfl d_law_917 ?_
                                                  refine V_iconst 2 (by decide) Z d_law_918 ?_
                                                  refine V_iadd Z d_law_919 ?_
                                                  obtain ⟨v382, e383, h⟩ := zB_bind h
                                                  refine V_sld Z hsc e383 d_law_920 ?_
                                                  obtain ⟨⟨v385, M386⟩, e384, h⟩ := zB_bind h
                                                  refine V_callV (rest := [_]) 2 Z (ok_X6_wishFor  e384) cd_X6_wishFor zc5 (by decide) rfl w1072 w1073 w1074 rfl d_law_921 rfl ?_
                                                  refine V_icmp_eq 1575 Z (by decide) d_law_924 (fun c387 => ?_) (fun c387 => ?_)
                                                  · have h := zB_pos c387 h
                                                    obtain ⟨n388, e389, h⟩ := zB_let h
                                                    refine V_iinck 6 6 3 n388 [(3, Value.int n388), (0, Value.ref 4000), (1, Value.ref 0), (2, Value.ref 47)] Z (by decide) (by decide) rfl e389 rfl d_law_1575 ?_
                                                    refine V_goto 18 Z (by decide) d_law_1578 ?_
                                                    refine V_sub [1, 2, 3, 0] rfl ?_
                                                    exact c1_i _ h
                                                  · have h := zB_neg c387 h
                                                    refine V_iconst 0 (by decide) Z d_law_927 ?_
                                                    have h := c1_r _ h
                                                    exact V_lawret Z hsc hy h d_law_928
                                                · skip
                                                  rcases zB_ite h with ⟨c390, h⟩ | ⟨c390, h⟩
                                                  · refine V_tabE (off := 896) 23 929 Z c390 d_law_33 (by decide) ?_
                                                    refine V_aload_n 1 Z rfl rfl d_law_929 ?_
                                                    obtain ⟨v392, e391, h⟩ := zB_bind h
                                                    refine V_callV (rest := []) 0 Z (ok_X5_peace  e391) cd_X5_peace zc4 (by decide) rfl w474 w475 w476 rfl d_law_930 rfl ?_
                                                    refine V_aload_n 2 Z rfl rfl d_law_933 ?_
                                                    obtain ⟨v394, e393, h⟩ := zB_bind h
                                                    refine V_callV (rest := [_]) 0 Z (ok_X6_peace  e393) cd_X6_peace zc5 (by decide) rfl w1076 w1077 w1078 rfl d_law_934 rfl ?_
                                                    refine V_icmp_eq 1575 Z (by decide) d_law_937 (fun c395 => ?_) (fun c395 => ?_)
                                                    · have h := zB_pos c395 h
                                                      obtain ⟨n396, e397, h⟩ := zB_let h
                                                      refine V_iinck 6 6 3 n396 [(3, Value.int n396), (0, Value.ref 4000), (1, Value.ref 0), (2, Value.ref 47)] Z (by decide) (by decide) rfl e397 rfl d_law_1575 ?_
                                                      refine V_goto 18 Z (by decide) d_law_1578 ?_
                                                      refine V_sub [1, 2, 3, 0] rfl ?_
                                                      exact c1_i _ h
                                                    · have h := zB_neg c395 h
                                                      refine V_iconst 0 (by decide) Z d_law_940 ?_
                                                      have h := c1_r _ h
                                                      exact V_lawret Z hsc hy h d_law_941
                                                  · skip
                                                    rcases zB_ite h with ⟨c398, h⟩ | ⟨c398, h⟩
                                                    · refine V_tabE (off := 909) 24 942 Z c398 d_law_33 (by decide) ?_
                                                      refine V_aload_n 1 Z rfl rfl d_law_942 ?_
                                                      refine V_aload_n 0 Z rfl rfl d_law_943 ?_
                                                      refine V_iload_n 3 Z rfl rfl d_law_944 ?_
                                                      refine V_iconst 1 (by decide) Z d_law_945 ?_
                                                      refine V_iadd Z d_law_946 ?_
                                                      obtain ⟨v399, e400, h⟩ := zB_bind h
                                                      refine V_sld Z hsc e400 d_law_947 ?_
                                                      obtain ⟨⟨v402, M403⟩, e401, h⟩ := zB_bind h
                                                      refine V_callV (rest := []) 1 Z (ok_X5_peaceful  e401) cd_X5_peaceful zc4 (by decide) rfl w485 w486 w487 rfl d_law_948 rfl ?_
                                                      refine V_aload_n 2 Z rfl rfl d_law_951 ?_
                                                      refine V_aload_n 0 Z rfl rfl d_law_952 ?_
                                                      refine V_iload_n 3 Z rfl rfl d_law_953 ?_
                                                      refine V_iconst 1 (by decide) Z d_law_954 ?_
                                                      refine V_iadd Z d_law_955 ?_
                                                      obtain ⟨v404, e405, h⟩ := zB_bind h
                                                      refine V_sld Z hsc e405 d_law_956 ?_
                                                      obtain ⟨⟨v407, M408⟩, e406, h⟩ := zB_bind h
                                                      refine V_callV (rest := [_]) 1 Z (ok_X6_peaceful  e406) cd_X6_peaceful zc5 (by decide) rfl w1087 w1088 w1089 rfl d_law_957 rfl ?_
                                                      refine V_icmp_eq 1575 Z (by decide) d_law_960 (fun c409 => ?_) (fun c409 => ?_)
                                                      · have h := zB_pos c409 h
                                                        obtain ⟨n410, e411, h⟩ := zB_let h
                                                        refine V_iinck 6 6 3 n410 [(3, Value.int n410), (0, Value.ref 4000), (1, Value.ref 0), (2, Value.ref 47)] Z (by decide) (by decide) rfl e411 rfl d_law_1575 ?_
                                                        refine V_goto 18 Z (by decide) d_law_1578 ?_
                                                        refine V_sub [1, 2, 3, 0] rfl ?_
                                                        exact c1_i _ h
                                                      · have h := zB_neg c409 h
                                                        refine V_iconst 0 (by decide) Z d_law_963 ?_
                                                        have h := c1_r _ h
                                                        exact V_lawret Z hsc hy h d_law_964
                                                    · skip
                                                      rcases zB_ite h with ⟨c412, h⟩ | ⟨c412, h⟩
                                                      · refine V_tabE (off := 932) 25 965 Z c412 d_law_33 (by decide) ?_
                                                        refine V_aload_n 1 Z rfl rfl d_law_965 ?_
                                                        obtain ⟨v414, e413, h⟩ := zB_bind h
                                                        refine V_callV (rest := []) 0 Z (ok_X5_groups  e413) cd_X5_groups zc4 (by decide) rfl w489 w490 w491 rfl d_law_966 rfl ?_
                                                        refine V_aload_n 2 Z rfl rfl d_law_969 ?_
                                                        obtain ⟨⟨v416, M417⟩, e415, h⟩ := zB_bind h
                                                        refine V_callV (rest := [_]) 0 Z (ok_X6_groups  e415) cd_X6_groups zc5 (by decide) rfl w1091 w1092 w1093 rfl d_law_970 rfl ?_
                                                        refine V_icmp_eq 1575 Z (by decide) d_law_973 (fun c418 => ?_) (fun c418 => ?_)
                                                        · have h := zB_pos c418 h
                                                          obtain ⟨n419, e420, h⟩ := zB_let h
                                                          refine V_iinck 6 6 3 n419 [(3, Value.int n419), (0, Value.ref 4000), (1, Value.ref 0), (2, Value.ref 47)] Z (by decide) (by decide) rfl e420 rfl d_law_1575 ?_
                                                          refine V_goto 18 Z (by decide) d_law_1578 ?_
                                                          refine V_sub [1, 2, 3, 0] rfl ?_
                                                          exact c1_i _ h
                                                        · have h := zB_neg c418 h
                                                          refine V_iconst 0 (by decide) Z d_law_976 ?_
                                                          have h := c1_r _ h
                                                          exact V_lawret Z hsc hy h d_law_977
                                                      · skip
                                                        rcases zB_ite h with ⟨c421, h⟩ | ⟨c421, h⟩
                                                        · refine V_tabE (off := 945) 26 978 Z c421 d_law_33 (by decide) ?_
                                                          refine V_aload_n 1 Z rfl rfl d_law_978 ?_
                                                          refine V_aload_n 0 Z rfl rfl d_law_979 ?_
                                                          refine V_iload_n 3 Z rfl rfl d_law_980 ?_
                                                          refine V_iconst 1 (by decide) Z d_law_981 ?_
                                                          refine V_iadd Z d_law_982 ?_
                                                          obtain ⟨v422, e423, h⟩ := zB_bind h
                                                          refine V_sld Z hsc e423 d_law_983 ?_
                                                          obtain ⟨⟨v425, M426⟩, e424, h⟩ := zB_bind h
                                                          refine V_callV (rest := []) 1 Z (ok_X5_mendFor  e424) cd_X5_mendFor zc4 (by decide) rfl w493 w494 w495 rfl d_law_984 rfl ?_
                                                          refine V_aload_n 2 Z rfl rfl d_law_987 ?_
                                                          refine V_aload_n 0 Z rfl rfl d_law_988 ?_
                                                          refine V_iload_n 3 Z rfl rfl d_law_989 ?_
                                                          refine V_iconst 1 (by decide) Z d_law_990 ?_
                                                          refine V_iadd Z d_law_991 ?_
                                                          obtain ⟨v427, e428, h⟩ := zB_bind h
                                                          refine V_sld Z hsc e428 d_law_992 ?_
                                                          obtain ⟨⟨v430, M431⟩, e429, h⟩ := zB_bind h
                                                          refine V_callV (rest := [_]) 1 Z (ok_X6_mendFor  e429) cd_X6_mendFor zc5 (by decide) rfl w1095 w1096 w1097 rfl d_law_993 rfl ?_
                                                          refine V_icmp_eq 1575 Z (by decide) d_law_996 (fun c432 => ?_) (fun c432 => ?_)
                                                          · have h := zB_pos c432 h
                                                            obtain ⟨n433, e434, h⟩ := zB_let h
                                                            refine V_iinck 6 6 3 n433 [(3, Value.int n433), (0, Value.ref 4000), (1, Value.ref 0), (2, Value.ref 47)] Z (by decide) (by decide) rfl e434 rfl d_law_1575 ?_
                                                            refine V_goto 18 Z (by decide) d_law_1578 ?_
                                                            refine V_sub [1, 2, 3, 0] rfl ?_
                                                            exact c1_i _ h
                                                          · have h := zB_neg c432 h
                                                            refine V_iconst 0 (by decide) Z d_law_999 ?_
                                                            have h := c1_r _ h
                                                            exact V_lawret Z hsc hy h d_law_1000
                                                        · skip
                                                          rcases zB_ite h with ⟨c435, h⟩ | ⟨c435, h⟩
                                                          · refine V_tabE (off := 968) 27 1001 Z c435 d_law_33 (by decide) ?_
                                                            refine V_aload_n 1 Z rfl rfl d_law_1001 ?_
                                                            refine V_aload_n 0 Z rfl rfl d_law_1002 ?_
                                                            refine V_iload_n 3 Z rfl rfl d_law_1003 ?_
                                                            refine V_iconst 1 (by decide) Z d_law_1004 ?_
                                                            refine V_iadd Z d_law_1005 ?_
                                                            obtain ⟨v436, e437, h⟩ := zB_bind h
                                                            refine V_sld Z hsc e437 d_law_1006 ?_
                                                            obtain ⟨⟨v439, M440⟩, e438, h⟩ := zB_bind h
                                                            refine V_callV (rest := []) 1 Z (ok_X5_without  e438) cd_X5_without zc4 (by decide) rfl w501 w502 w503 rfl d_law_1007 rfl ?_
                                                            refine V_aload_n 2 Z rfl rfl d_law_1010 ?_
                                                            refine V_aload_n 0 Z rfl rfl d_law_1011 ?_
                                                            refine V_iload_n 3 Z rfl rfl d_law_1012 ?_
                                                            refine V_iconst 1 (by decide) Z d_law_1013 ?_
                                                            refine V_iadd Z d_law_1014 ?_
                                                            obtain ⟨v441, e442, h⟩ := zB_bind h
                                                            refine V_sld Z hsc e442 d_law_1015 ?_
                                                            obtain ⟨⟨v444, M445⟩, e443, h⟩ := zB_bind h
                                                            refine V_callV (rest := [_]) 1 Z (ok_X6_without  e443) cd_X6_without zc5 (by decide) rfl w1107 w1108 w1109 rfl d_law_1016 rfl ?_
                                                            refine V_icmp_eq 1575 Z (by decide) d_law_1019 (fun c446 => ?_) (fun c446 => ?_)
                                                            · have h := zB_pos c446 h
                                                              obtain ⟨n447, e448, h⟩ := zB_let h
                                                              refine V_iinck 6 6 3 n447 [(3, Value.int n447), (0, Value.ref 4000), (1, Value.ref 0), (2, Value.ref 47)] Z (by decide) (by decide) rfl e448 rfl d_law_1575 ?_
                                                              refine V_goto 18 Z (by decide) d_law_1578 ?_
                                                              refine V_sub [1, 2, 3, 0] rfl ?_
                                                              exact c1_i _ h
                                                            · have h := zB_neg c446 h
                                                              refine V_iconst 0 (by decide) Z d_law_1022 ?_
                                                              have h := c1_r _ h
                                                              exact V_lawret Z hsc hy h d_law_1023
                                                          · skip
                                                            rcases zB_ite h with ⟨c449, h⟩ | ⟨c449, h⟩
                                                            · refine V_tabE (off := 991) 28 1024 Z c449 d_law_33 (by decide) ?_
                                                              refine V_aload_n 1 Z rfl rfl d_law_1024 ?_
                                                              refine V_aload_n 0 Z rfl rfl d_law_1025 ?_
                                                              refine V_iload_n 3 Z rfl rfl d_law_1026 ?_
                                                              refine V_iconst 1 (by decide) Z d_law_1027 ?_
                                                              refine V_iadd Z d_law_1028 ?_
                                                              obtain ⟨v450, e451, h⟩ := zB_bind h
                                                              refine V_sld Z hsc e451 d_law_1029 ?_
                                                              refine V_aload_n 0 Z rfl rfl d_law_1030 ?_
                                                              refine V_iload_n 3 Z rfl rfl d_law_1031 ?_
                                                              refine V_iconst 2 (by decide) Z d_law_1032 ?_
                                                              refine V_iadd Z d_law_1033 ?_
                                                              obtain ⟨v452, e453, h⟩ := zB_bind h
                                                              refine V_sld Z hsc e453 d_law_1034 ?_
                                                              obtain ⟨⟨v455, M456⟩, e454, h⟩ := zB_bind h
                                                              refine V_callV (rest := []) 2 Z (ok_X5_fits  e454) cd_X5_fits zc4 (by decide) rfl w505 w506 w507 rfl d_law_1035 rfl ?_
                                                              refine V_aload_n 2 Z rfl rfl d_law_1038 ?_
                                                              refine V_aload_n 0 Z rfl rfl d_law_1039 ?_
                                                              refine V_iload_n 3 Z rfl rfl d_law_1040 ?_
                                                              refine V_iconst 1 (by decide) Z d_law_1041 ?_
                                                              refine V_iadd Z d_law_1042 ?_
                                                              obtain ⟨v457, e458, h⟩ := zB_bind h
                                                              refine V_sld Z hsc e458 d_law_1043 ?_
                                                              refine V_aload_n 0 Z rfl rfl d_law_1044 ?_
                                                              refine V_iload_n 3 Z rfl rfl d_law_1045 ?_
                                                              refine V_iconst 2 (by decide) Z d_law_1046 ?_
                                                              refine V_iadd Z d_law_1047 ?_
                                                              obtain ⟨v459, e460, h⟩ := zB_bind h
                                                              refine V_sld Z hsc e460 d_law_1048 ?_
                                                              obtain ⟨⟨v462, M463⟩, e461, h⟩ := zB_bind h
                                                              refine V_callV (rest := [_]) 2 Z (ok_X6_fits  e461) cd_X6_fits zc5 (by decide) rfl w1111 w1112 w1113 rfl d_law_1049 rfl ?_
                                                              refine V_icmp_eq 1575 Z (by decide) d_law_1052 (fun c464 => ?_) (fun c464 => ?_)
                                                              · have h := zB_pos c464 h
                                                                obtain ⟨n465, e466, h⟩ := zB_let h
                                                                refine V_iinck 6 6 3 n465 [(3, Value.int n465), (0, Value.ref 4000), (1, Value.ref 0), (2, Value.ref 47)] Z (by decide) (by decide) rfl e466 rfl d_law_1575 ?_
                                                                refine V_goto 18 Z (by decide) d_law_1578 ?_
                                                                refine V_sub [1, 2, 3, 0] rfl ?_
                                                                exact c1_i _ h
                                                              · have h := zB_neg c464 h
                                                                refine V_iconst 0 (by decide) Z d_law_1055 ?_
                                                                have h := c1_r _ h
                                                                exact V_lawret Z hsc hy h d_law_1056
                                                            · skip
                                                              rcases zB_ite h with ⟨c467, h⟩ | ⟨c467, h⟩
                                                              · refine V_tabE (off := 1024) 29 1057 Z c467 d_law_33 (by decide) ?_
                                                                refine V_aload_n 1 Z rfl rfl d_law_1057 ?_
                                                                refine V_aload_n 0 Z rfl rfl d_law_1058 ?_
                                                                refine V_iload_n 3 Z rfl rfl d_law_1059 ?_
                                                                refine V_iconst 1 (by decide) Z d_law_1060 ?_
                                                                refine V_iadd Z d_law_1061 ?_
                                                                obtain ⟨v468, e469, h⟩ := zB_bind h
                                                                refine V_sld Z hsc e469 d_law_1062 ?_
                                                                refine V_aload_n 0 Z rfl rfl d_law_1063 ?_
                                                                refine V_iload_n 3 Z rfl rfl d_law_1064 ?_
                                                                refine V_iconst 2 (by decide) Z d_law_1065 ?_
                                                                refine V_iadd Z d_law_1066 ?_
                                                                obtain ⟨v470, e471, h⟩ := zB_bind h
                                                                refine V_sld Z hsc e471 d_law_1067 ?_
                                                                obtain ⟨⟨v473, M474⟩, e472, h⟩ := zB_bind h
                                                                refine V_callV (rest := []) 2 Z (ok_X5_wish  e472) cd_X5_wish zc4 (by decide) rfl w524 w525 w526 rfl d_law_1068 rfl ?_
                                                                refine V_aload_n 2 Z rfl rfl d_law_1071 ?_
                                                                refine V_aload_n 0 Z rfl rfl d_law_1072 ?_
                                                                refine V_iload_n 3 Z rfl rfl d_law_1073 ?_
                                                                refine V_iconst 1 (by decide) Z d_law_1074 ?_
                                                                refine V_iadd Z d_law_1075 ?_
                                                                obtain ⟨v475, e476, h⟩ := zB_bind h
                                                                refine V_sld Z hsc e476 d_law_1076 ?_
                                                                refine V_aload_n 0 Z rfl rfl d_law_1077 ?_
                                                                refine V_iload_n 3 Z rfl rfl d_law_1078 ?_
                                                                refine V_iconst 2 (by decide) Z d_law_1079 ?_
                                                                refine V_iadd Z d_law_1080 ?_
                                                                obtain ⟨v477, e478, h⟩ := zB_bind h
                                                                refine V_sld Z hsc e478 d_law_1081 ?_
                                                                obtain ⟨⟨v480, M481⟩, e479, h⟩ := zB_bind h
                                                                refine V_callV (rest := [_]) 2 Z (ok_X6_wish  e479) cd_X6_wish zc5 (by decide) rfl w1131 w1132 w1133 rfl d_law_1082 rfl ?_
                                                                refine V_icmp_eq 1575 Z (by decide) d_law_1085 (fun c482 => ?_) (fun c482 => ?_)
                                                                · have h := zB_pos c482 h
                                                                  obtain ⟨n483, e484, h⟩ := zB_let h
                                                                  refine V_iinck 6 6 3 n483 [(3, Value.int n483), (0, Value.ref 4000), (1, Value.ref 0), (2, Value.ref 47)] Z (by decide) (by decide) rfl e484 rfl d_law_1575 ?_
                                                                  refine V_goto 18 Z (by decide) d_law_1578 ?_
                                                                  refine V_sub [1, 2, 3, 0] rfl ?_
                                                                  exact c1_i _ h
                                                                · have h := zB_neg c482 h
                                                                  refine V_iconst 0 (by decide) Z d_law_1088 ?_
                                                                  have h := c1_r _ h
                                                                  exact V_lawret Z hsc hy h d_law_1089
                                                              · skip
                                                                rcases zB_ite h with ⟨c485, h⟩ | ⟨c485, h⟩
                                                                · refine V_tabE (off := 1057) 30 1090 Z c485 d_law_33 (by decide) ?_
                                                                  refine V_aload_n 1 Z rfl rfl d_law_1090 ?_
                                                                  refine V_aload_n 0 Z rfl rfl d_law_1091 ?_
                                                                  refine V_iload_n 3 Z rfl rfl d_law_1092 ?_
                                                                  refine V_iconst 1 (by decide) Z d_law_1093 ?_
                                                                  refine V_iadd Z d_law_1094 ?_
                                                                  obtain ⟨v486, e487, h⟩ := zB_bind h
                                                                  refine V_sld Z hsc e487 d_law_1095 ?_
                                                                  obtain ⟨⟨v489, M490⟩, e488, h⟩ := zB_bind h
                                                                  refine V_callV (rest := []) 1 Z (ok_X5_moths  e488) cd_X5_moths zc4 (by decide) rfl w529 w530 w531 rfl d_law_1096 rfl ?_
                                                                  refine V_aload_n 2 Z rfl rfl d_law_1099 ?_
                                                                  refine V_aload_n 0 Z rfl rfl d_law_1100 ?_
                                                                  refine V_iload_n 3 Z rfl rfl d_law_1101 ?_
                                                                  refine V_iconst 1 (by decide) Z d_law_1102 ?_
                                                                  refine V_iadd Z d_law_1103 ?_
                                                                  obtain ⟨v491, e492, h⟩ := zB_bind h
                                                                  refine V_sld Z hsc e492 d_law_1104 ?_
                                                                  obtain ⟨⟨v494, M495⟩, e493, h⟩ := zB_bind h
                                                                  refine V_callV (rest := [_]) 1 Z (ok_X6_moths  e493) cd_X6_moths zc5 (by decide) rfl w1135 w1136 w1137 rfl d_law_1105 rfl ?_
                                                                  refine V_icmp_eq 1575 Z (by decide) d_law_1108 (fun c496 => ?_) (fun c496 => ?_)
                                                                  · have h := zB_pos c496 h
                                                                    obtain ⟨n497, e498, h⟩ := zB_let h
                                                                    refine V_iinck 6 6 3 n497 [(3, Value.int n497), (0, Value.ref 4000), (1, Value.ref 0), (2, Value.ref 47)] Z (by decide) (by decide) rfl e498 rfl d_law_1575 ?_
                                                                    refine V_goto 18 Z (by decide) d_law_1578 ?_
                                                                    refine V_sub [1, 2, 3, 0] rfl ?_
                                                                    exact c1_i _ h
                                                                  · have h := zB_neg c496 h
                                                                    refine V_iconst 0 (by decide) Z d_law_1111 ?_
                                                                    have h := c1_r _ h
                                                                    exact V_lawret Z hsc hy h d_law_1112
                                                                · skip
                                                                  rcases zB_ite h with ⟨c499, h⟩ | ⟨c499, h⟩
                                                                  · refine V_tabE (off := 1080) 31 1113 Z c499 d_law_33 (by decide) ?_
                                                                    refine V_aload_n 1 Z rfl rfl d_law_1113 ?_
                                                                    refine V_aload_n 0 Z rfl rfl d_law_1114 ?_
                                                                    refine V_iload_n 3 Z rfl rfl d_law_1115 ?_
                                                                    refine V_iconst 1 (by decide) Z d_law_1116 ?_
                                                                    refine V_iadd Z d_law_1117 ?_
                                                                    obtain ⟨v500, e501, h⟩ := zB_bind h
                                                                    refine V_sld Z hsc e501 d_law_1118 ?_
                                                                    refine V_aload_n 0 Z rfl rfl d_law_1119 ?_
                                                                    refine V_iload_n 3 Z rfl rfl d_law_1120 ?_
                                                                    refine V_iconst 2 (by decide) Z d_law_1121 ?_
                                                                    refine V_iadd Z d_law_1122 ?_
                                                                    obtain ⟨v502, e503, h⟩ := zB_bind h
                                                                    refine V_sld Z hsc e503 d_law_1123 ?_
                                                                    obtain ⟨⟨v505, M506⟩, e504, h⟩ := zB_bind h
                                                                    refine V_callV (rest := []) 2 Z (ok_X5_odds  e504) cd_X5_odds zc4 (by decide) rfl w538 w539 w540 rfl d_law_1124 rfl ?_
                                                                    refine V_aload_n 2 Z rfl rfl d_law_1127 ?_
                                                                    refine V_aload_n 0 Z rfl rfl d_law_1128 ?_
                                                                    refine V_iload_n 3 Z rfl rfl d_law_1129 ?_
                                                                    refine V_iconst 1 (by decide) Z d_law_1130 ?_
                                                                    refine V_iadd Z d_law_1131 ?_
                                                                    obtain ⟨v507, e508, h⟩ := zB_bind h
                                                                    refine V_sld Z hsc e508 d_law_1132 ?_
                                                                    refine V_aload_n 0 Z rfl rfl d_law_1133 ?_
                                                                    refine V_iload_n 3 Z rfl rfl d_law_1134 ?_
                                                                    refine V_iconst 2 (by decide) Z d_law_1135 ?_
                                                                    refine V_iadd Z d_law_1136 ?_
                                                                    obtain ⟨v509, e510, h⟩ := zB_bind h
                                                                    refine V_sld Z hsc e510 d_law_1137 ?_
                                                                    obtain ⟨⟨v512, M513⟩, e511, h⟩ := zB_bind h
                                                                    refine V_callV (rest := [_]) 2 Z (ok_X6_odds  e511) cd_X6_odds zc5 (by decide) rfl w1144 w1145 w1146 rfl d_law_1138 rfl ?_
                                                                    refine V_lcmp Z d_law_1141 ?_
                                                                    refine V_if_eq 1575 Z (by decide) d_law_1142 (fun c514 => ?_) (fun c514 => ?_)
                                                                    · have h := zB_pos c514 h
                                                                      obtain ⟨n515, e516, h⟩ := zB_let h
                                                                      refine V_iinck 6 6 3 n515 [(3, Value.int n515), (0, Value.ref 4000), (1, Value.ref 0), (2, Value.ref 47)] Z (by decide) (by decide) rfl e516 rfl d_law_1575 ?_
                                                                      refine V_goto 18 Z (by decide) d_law_1578 ?_
                                                                      refine V_sub [1, 2, 3, 0] rfl ?_
                                                                      exact c1_i _ h
                                                                    · have h := zB_neg c514 h
                                                                      refine V_iconst 0 (by decide) Z d_law_1145 ?_
                                                                      have h := c1_r _ h
                                                                      exact V_lawret Z hsc hy h d_law_1146
                                                                  · skip
                                                                    rcases zB_ite h with ⟨c517, h⟩ | ⟨c517, h⟩
                                                                    · refine V_tabE (off := 1114) 32 1147 Z c517 d_law_33 (by decide) ?_
                                                                      refine V_aload_n 1 Z rfl rfl d_law_1147 ?_
                                                                      refine V_aload_n 0 Z rfl rfl d_law_1148 ?_
                                                                      refine V_iload_n 3 Z rfl rfl d_law_1149 ?_
                                                                      refine V_iconst 1 (by decide) Z d_law_1150 ?_
                                                                      refine V_iadd Z d_law_1151 ?_
                                                                      obtain ⟨v518, e519, h⟩ := zB_bind h
                                                                      refine V_sld Z hsc e519 d_law_1152 ?_
                                                                      obtain ⟨⟨v521, M522⟩, e520, h⟩ := zB_bind h
                                                                      refine V_callV (rest := []) 1 Z (ok_X5_seed  e520) cd_X5_seed zc4 (by decide) rfl w542 w543 w544 rfl d_law_1153 rfl ?_
                                                                      refine V_aload_n 2 Z rfl rfl d_law_1156 ?_
                                                                      refine V_aload_n 0 Z rfl rfl d_law_1157 ?_
                                                                      refine V_iload_n 3 Z rfl rfl d_law_1158 ?_
                                                                      refine V_iconst 1 (by decide) Z d_law_1159 ?_
                                                                      refine V_iadd Z d_law_1160 ?_
                                                                      obtain ⟨v523, e524, h⟩ := zB_bind h
                                                                      refine V_sld Z hsc e524 d_law_1161 ?_
                                                                      obtain ⟨⟨v526, M527⟩, e525, h⟩ := zB_bind h
                                                                      refine V_callV (rest := [_]) 1 Z (ok_X6_seed  e525) cd_X6_seed zc5 (by decide) rfl w1148 w1149 w1150 rfl d_law_1162 rfl ?_
                                                                      refine V_icmp_eq 1575 Z (by decide) d_law_1165 (fun c528 => ?_) (fun c528 => ?_)
                                                                      · have h := zB_pos c528 h
                                                                        obtain ⟨n529, e530, h⟩ := zB_let h
                                                                        refine V_iinck 6 6 3 n529 [(3, Value.int n529), (0, Value.ref 4000), (1, Value.ref 0), (2, Value.ref 47)] Z (by decide) (by decide) rfl e530 rfl d_law_1575 ?_
                                                                        refine V_goto 18 Z (by decide) d_law_1578 ?_
                                                                        refine V_sub [1, 2, 3, 0] rfl ?_
                                                                        exact c1_i _ h
                                                                      · have h := zB_neg c528 h
                                                                        refine V_iconst 0 (by decide) Z d_law_1168 ?_
                                                                        have h := c1_r _ h
                                                                        exact V_lawret Z hsc hy h d_law_1169
                                                                    · skip
                                                                      rcases zB_ite h with ⟨c531, h⟩ | ⟨c531, h⟩
                                                                      · refine V_tabE (off := 1137) 33 1170 Z c531 d_law_33 (by decide) ?_
                                                                        refine V_aload_n 1 Z rfl rfl d_law_1170 ?_
                                                                        refine V_aload_n 0 Z rfl rfl d_law_1171 ?_
                                                                        refine V_iload_n 3 Z rfl rfl d_law_1172 ?_
                                                                        refine V_iconst 1 (by decide) Z d_law_1173 ?_
                                                                        refine V_iadd Z d_law_1174 ?_
                                                                        obtain ⟨v532, e533, h⟩ := zB_bind h
                                                                        refine V_sld Z hsc e533 d_law_1175 ?_
                                                                        refine V_aload_n 0 Z rfl rfl d_law_1176 ?_
                                                                        refine V_iload_n 3 Z rfl rfl d_law_1177 ?_
                                                                        refine V_iconst 2 (by decide) Z d_law_1178 ?_
                                                                        refine V_iadd Z d_law_1179 ?_
                                                                        obtain ⟨v534, e535, h⟩ := zB_bind h
                                                                        refine V_sld Z hsc e535 d_law_1180 ?_
                                                                        obtain ⟨⟨v537, M538⟩, e536, h⟩ := zB_bind h
                                                                        refine V_callV (rest := []) 2 Z (ok_X5_feed  e536) cd_X5_feed zc4 (by decide) rfl w546 w547 w548 rfl d_law_1181 rfl ?_
                                                                        refine V_aload_n 2 Z rfl rfl d_law_1184 ?_
                                                                        refine V_aload_n 0 Z rfl rfl d_law_1185 ?_
                                                                        refine V_iload_n 3 Z rfl rfl d_law_1186 ?_
                                                                        refine V_iconst 1 (by decide) Z d_law_1187 ?_
                                                                        refine V_iadd Z d_law_1188 ?_
                                                                        obtain ⟨v539, e540, h⟩ := zB_bind h
                                                                        refine V_sld Z hsc e540 d_law_1189 ?_
                                                                        refine V_aload_n 0 Z rfl rfl d_law_1190 ?_
                                                                        refine V_iload_n 3 Z rfl rfl d_law_1191 ?_
                                                                        refine V_iconst 2 (by decide) Z d_law_1192 ?_
                                                                        refine V_iadd Z d_law_1193 ?_
                                                                        obtain ⟨v541, e542, h⟩ := zB_bind h
                                                                        refine V_sld Z hsc e542 d_law_1194 ?_
                                                                        obtain ⟨⟨v544, M545⟩, e543, h⟩ := zB_bind h
                                                                        refine V_callV (rest := [_]) 2 Z (ok_X6_feed  e543) cd_X6_feed zc5 (by decide) rfl w1152 w1153 w1154 rfl d_law_1195 rfl ?_
                                                                        refine V_icmp_eq 1575 Z (by decide) d_law_1198 (fun c546 => ?_) (fun c546 => ?_)
                                                                        · have h := zB_pos c546 h
                                                                          obtain ⟨n547, e548, h⟩ := zB_let h
                                                                          refine V_iinck 6 6 3 n547 [(3, Value.int n547), (0, Value.ref 4000), (1, Value.ref 0), (2, Value.ref 47)] Z (by decide) (by decide) rfl e548 rfl d_law_1575 ?_
                                                                          refine V_goto 18 Z (by decide) d_law_1578 ?_
                                                                          refine V_sub [1, 2, 3, 0] rfl ?_
                                                                          exact c1_i _ h
                                                                        · have h := zB_neg c546 h
                                                                          refine V_iconst 0 (by decide) Z d_law_1201 ?_
                                                                          have h := c1_r _ h
                                                                          exact V_lawret Z hsc hy h d_law_1202
                                                                      · skip
                                                                        rcases zB_ite h with ⟨c549, h⟩ | ⟨c549, h⟩
                                                                        · refine V_tabE (off := 1170) 34 1203 Z c549 d_law_33 (by decide) ?_
                                                                          refine V_aload_n 1 Z rfl rfl d_law_1203 ?_
                                                                          obtain ⟨⟨v551, M552⟩, e550, h⟩ := zB_bind h
                                                                          refine V_callV (rest := []) 0 Z (ok_X5_wipe  e550) cd_X5_wipe zc4 (by decide) rfl w554 w555 w556 rfl d_law_1204 rfl ?_
                                                                          refine V_aload_n 2 Z rfl rfl d_law_1207 ?_
                                                                          obtain ⟨⟨v554, M555⟩, e553, h⟩ := zB_bind h
                                                                          refine V_callV (rest := [_]) 0 Z (ok_X6_wipe  e553) cd_X6_wipe zc5 (by decide) rfl w1156 w1157 w1158 rfl d_law_1208 rfl ?_
                                                                          refine V_icmp_eq 1575 Z (by decide) d_law_1211 (fun c556 => ?_) (fun c556 => ?_)
                                                                          · have h := zB_pos c556 h
                                                                            obtain ⟨n557, e558, h⟩ := zB_let h
                                                                            refine V_iinck 6 6 3 n557 [(3, Value.int n557), (0, Value.ref 4000), (1, Value.ref 0), (2, Value.ref 47)] Z (by decide) (by decide) rfl e558 rfl d_law_1575 ?_
                                                                            refine V_goto 18 Z (by decide) d_law_1578 ?_
                                                                            refine V_sub [1, 2, 3, 0] rfl ?_
                                                                            exact c1_i _ h
                                                                          · have h := zB_neg c556 h
                                                                            refine V_iconst 0 (by decide) Z d_law_1214 ?_
                                                                            have h := c1_r _ h
                                                                            exact V_lawret Z hsc hy h d_law_1215
                                                                        · skip
                                                                          rcases zB_ite h with ⟨c559, h⟩ | ⟨c559, h⟩
                                                                          · refine V_tabE (off := 1183) 35 1216 Z c559 d_law_33 (by decide) ?_
                                                                            refine V_aload_n 1 Z rfl rfl d_law_1216 ?_
                                                                            obtain ⟨⟨v561, M562⟩, e560, h⟩ := zB_bind h
                                                                            refine V_callV (rest := []) 0 Z (ok_X5_text  e560) cd_X5_text zc4 (by decide) rfl w558 w559 w560 rfl d_law_1217 rfl ?_
                                                                            refine V_aload_n 2 Z rfl rfl d_law_1220 ?_
                                                                            obtain ⟨⟨v564, M565⟩, e563, h⟩ := zB_bind h
                                                                            refine V_callV (rest := [_]) 0 Z (ok_X6_text  e563) cd_X6_text zc5 (by decide) rfl w1160 w1161 w1162 rfl d_law_1221 rfl ?_
                                                                            refine V_icmp_eq 1575 Z (by decide) d_law_1224 (fun c566 => ?_) (fun c566 => ?_)
                                                                            · have h := zB_pos c566 h
                                                                              obtain ⟨n567, e568, h⟩ := zB_let h
                                                                              refine V_iinck 6 6 3 n567 [(3, Value.int n567), (0, Value.ref 4000), (1, Value.ref 0), (2, Value.ref 47)] Z (by decide) (by decide) rfl e568 rfl d_law_1575 ?_
                                                                              refine V_goto 18 Z (by decide) d_law_1578 ?_
                                                                              refine V_sub [1, 2, 3, 0] rfl ?_
                                                                              exact c1_i _ h
                                                                            · have h := zB_neg c566 h
                                                                              refine V_iconst 0 (by decide) Z d_law_1227 ?_
                                                                              have h := c1_r _ h
                                                                              exact V_lawret Z hsc hy h d_law_1228
                                                                          · skip
                                                                            rcases zB_ite h with ⟨c569, h⟩ | ⟨c569, h⟩
                                                                            · refine V_tabE (off := 1196) 36 1229 Z c569 d_law_33 (by decide) ?_
                                                                              refine V_aload_n 1 Z rfl rfl d_law_1229 ?_
                                                                              refine V_aload_n 0 Z rfl rfl d_law_1230 ?_
                                                                              refine V_iload_n 3 Z rfl rfl d_law_1231 ?_
                                                                              refine V_iconst 1 (by decide) Z d_law_1232 ?_
                                                                              refine V_iadd Z d_law_1233 ?_
                                                                              obtain ⟨v570, e571, h⟩ := zB_bind h
                                                                              refine V_sld Z hsc e571 d_law_1234 ?_
                                                                              refine V_aload_n 0 Z rfl rfl d_law_1235 ?_
                                                                              refine V_iload_n 3 Z rfl rfl d_law_1236 ?_
                                                                              refine V_iconst 2 (by decide) Z d_law_1237 ?_
                                                                              refine V_iadd Z d_law_1238 ?_
                                                                              obtain ⟨v572, e573, h⟩ := zB_bind h
                                                                              refine V_sld Z hsc e573 d_law_1239 ?_
                                                                              obtain ⟨⟨v575, M576⟩, e574, h⟩ := zB_bind h
                                                                              refine V_callV (rest := []) 2 Z (ok_X5_hold  e574) cd_X5_hold zc4 (by decide) rfl w680 w681 w682 rfl d_law_1240 rfl ?_
                                                                              refine V_aload_n 2 Z rfl rfl d_law_1243 ?_
                                                                              refine V_aload_n 0 Z rfl rfl d_law_1244 ?_
                                                                              refine V_iload_n 3 Z rfl rfl d_law_1245 ?_
                                                                              refine V_iconst 1 (by decide) Z d_law_1246 ?_
                                                                              refine V_iadd Z d_law_1247 ?_
                                                                              obtain ⟨v577, e578, h⟩ := zB_bind h
                                                                              refine V_sld Z hsc e578 d_law_1248 ?_
                                                                              refine V_aload_n 0 Z rfl rfl d_law_1249 ?_
                                                                              refine V_iload_n 3 Z rfl rfl d_law_1250 ?_
                                                                              refine V_iconst 2 (by decide) Z d_law_1251 ?_
                                                                              refine V_iadd Z d_law_1252 ?_
                                                                              obtain ⟨v579, e580, h⟩ := zB_bind h
                                                                              refine V_sld Z hsc e580 d_law_1253 ?_
                                                                              obtain ⟨⟨v582, M583⟩, e581, h⟩ := zB_bind h
                                                                              refine V_callV (rest := [_]) 2 Z (ok_X6_hold  e581) cd_X6_hold zc5 (by decide) rfl w1212 w1213 w1214 rfl d_law_1254 rfl ?_
                                                                              refine V_icmp_eq 1575 Z (by decide) d_law_1257 (fun c584 => ?_) (fun c584 => ?_)
                                                                              · have h := zB_pos c584 h
                                                                                obtain ⟨n585, e586, h⟩ := zB_let h
                                                                                refine V_iinck 6 6 3 n585 [(3, Value.int n585), (0, Value.ref 4000), (1, Value.ref 0), (2, Value.ref 47)] Z (by decide) (by decide) rfl e586 rfl d_law_1575 ?_
                                                                                refine V_goto 18 Z (by decide) d_law_1578 ?_
                                                                                refine V_sub [1, 2, 3, 0] rfl ?_
                                                                                exact c1_i _ h
                                                                              · have h := zB_neg c584 h
                                                                                refine V_iconst 0 (by decide) Z d_law_1260 ?_
                                                                                have h := c1_r _ h
                                                                                exact V_lawret Z hsc hy h d_law_1261
                                                                            · skip
                                                                              rcases zB_ite h with ⟨c587, h⟩ | ⟨c587, h⟩
                                                                              · refine V_tabE (off := 1229) 37 1262 Z c587 d_law_33 (by decide) ?_
                                                                                refine V_aload_n 1 Z rfl rfl d_law_1262 ?_
                                                                                refine V_aload_n 0 Z rfl rfl d_law_1263 ?_
                                                                                refine V_iload_n 3 Z rfl rfl d_law_1264 ?_
                                                                                refine V_iconst 1 (by decide) Z d_law_1265 ?_
                                                                                refine V_iadd Z d_law_1266 ?_
                                                                                obtain ⟨v588, e589, h⟩ := zB_bind h
                                                                                refine V_sld Z hsc e589 d_law_1267 ?_
                                                                                refine V_aload_n 0 Z rfl rfl d_law_1268 ?_
                                                                                refine V_iload_n 3 Z rfl rfl d_law_1269 ?_
                                                                                refine V_iconst 2 (by decide) Z d_law_1270 ?_
                                                                                refine V_iadd Z d_law_1271 ?_
                                                                                obtain ⟨v590, e591, h⟩ := zB_bind h
                                                                                refine V_sld Z hsc e591 d_law_1272 ?_
                                                                                obtain ⟨⟨v593, M594⟩, e592, h⟩ := zB_bind h
                                                                                refine V_callV (rest := []) 2 Z (ok_X5_as  e592) cd_X5_as zc4 (by decide) rfl w684 w685 w686 rfl d_law_1273 rfl ?_
                                                                                refine V_aload_n 2 Z rfl rfl d_law_1276 ?_
                                                                                refine V_aload_n 0 Z rfl rfl d_law_1277 ?_
                                                                                refine V_iload_n 3 Z rfl rfl d_law_1278 ?_
                                                                                refine V_iconst 1 (by decide) Z d_law_1279 ?_
                                                                                refine V_iadd Z d_law_1280 ?_
                                                                                obtain ⟨v595, e596, h⟩ := zB_bind h
                                                                                refine V_sld Z hsc e596 d_law_1281 ?_
                                                                                refine V_aload_n 0 Z rfl rfl d_law_1282 ?_
                                                                                refine V_iload_n 3 Z rfl rfl d_law_1283 ?_
                                                                                refine V_iconst 2 (by decide) Z d_law_1284 ?_
                                                                                refine V_iadd Z d_law_1285 ?_
                                                                                obtain ⟨v597, e598, h⟩ := zB_bind h
                                                                                refine V_sld Z hsc e598 d_law_1286 ?_
                                                                                obtain ⟨⟨v600, M601⟩, e599, h⟩ := zB_bind h
                                                                                refine V_callV (rest := [_]) 2 Z (ok_X6_as  e599) cd_X6_as zc5 (by decide) rfl w1219 w1220 w1221 rfl d_law_1287 rfl ?_
                                                                                refine V_icmp_eq 1575 Z (by decide) d_law_1290 (fun c602 => ?_) (fun c602 => ?_)
                                                                                · have h := zB_pos c602 h
                                                                                  obtain ⟨n603, e604, h⟩ := zB_let h
                                                                                  refine V_iinck 6 6 3 n603 [(3, Value.int n603), (0, Value.ref 4000), (1, Value.ref 0), (2, Value.ref 47)] Z (by decide) (by decide) rfl e604 rfl d_law_1575 ?_
                                                                                  refine V_goto 18 Z (by decide) d_law_1578 ?_
                                                                                  refine V_sub [1, 2, 3, 0] rfl ?_
                                                                                  exact c1_i _ h
                                                                                · have h := zB_neg c602 h
                                                                                  refine V_iconst 0 (by decide) Z d_law_1293 ?_
                                                                                  have h := c1_r _ h
                                                                                  exact V_lawret Z hsc hy h d_law_1294
                                                                              · skip
                                                                                rcases zB_ite h with ⟨c605, h⟩ | ⟨c605, h⟩
                                                                                · refine V_tabE (off := 1262) 38 1295 Z c605 d_law_33 (by decide) ?_
                                                                                  refine V_aload_n 1 Z rfl rfl d_law_1295 ?_
                                                                                  refine V_aload_n 0 Z rfl rfl d_law_1296 ?_
                                                                                  refine V_iload_n 3 Z rfl rfl d_law_1297 ?_
                                                                                  refine V_iconst 1 (by decide) Z d_law_1298 ?_
                                                                                  refine V_iadd Z d_law_1299 ?_
                                                                                  obtain ⟨v606, e607, h⟩ := zB_bind h
                                                                                  refine V_sld Z hsc e607 d_law_1300 ?_
                                                                                  refine V_aload_n 0 Z rfl rfl d_law_1301 ?_
                                                                                  refine V_iload_n 3 Z rfl rfl d_law_1302 ?_
                                                                                  refine V_iconst 2 (by decide) Z d_law_1303 ?_
                                                                                  refine V_iadd Z d_law_1304 ?_
                                                                                  obtain ⟨v608, e609, h⟩ := zB_bind h
                                                                                  refine V_sld Z hsc e609 d_law_1305 ?_
                                                                                  refine V_aload_n 0 Z rfl rfl d_law_1306 ?_
                                                                                  refine V_iload_n 3 Z rfl rfl d_law_1307 ?_
                                                                                  refine V_iconst 3 (by decide) Z d_law_1308 ?_
                                                                                  refine V_iadd Z d_law_1309 ?_
                                                                                  obtain ⟨v610, e611, h⟩ := zB_bind h
                                                                                  refine V_sld Z hsc e611 d_law_1310 ?_
                                                                                  obtain ⟨⟨v613, M614⟩, e612, h⟩ := zB_bind h
                                                                                  refine V_callV (rest := []) 3 Z (ok_X5_sheet  e612) cd_X5_sheet zc4 (by decide) rfl w694 w695 w696 rfl d_law_1311 rfl ?_
                                                                                  refine V_aload_n 2 Z rfl rfl d_law_1314 ?_
                                                                                  refine V_aload_n 0 Z rfl rfl d_law_1315 ?_
                                                                                  refine V_iload_n 3 Z rfl rfl d_law_1316 ?_
                                                                                  refine V_iconst 1 (by decide) Z d_law_1317 ?_
                                                                                  refine V_iadd Z d_law_1318 ?_
                                                                                  obtain ⟨v615, e616, h⟩ := zB_bind h
                                                                                  refine V_sld Z hsc e616 d_law_1319 ?_
                                                                                  refine V_aload_n 0 Z rfl rfl d_law_1320 ?_
                                                                                  refine V_iload_n 3 Z rfl rfl d_law_1321 ?_
                                                                                  refine V_iconst 2 (by decide) Z d_law_1322 ?_
                                                                                  refine V_iadd Z d_law_1323 ?_
                                                                                  obtain ⟨v617, e618, h⟩ := zB_bind h
                                                                                  refine V_sld Z hsc e618 d_law_1324 ?_
                                                                                  refine V_aload_n 0 Z rfl rfl d_law_1325 ?_
                                                                                  refine V_iload_n 3 Z rfl rfl d_law_1326 ?_
                                                                                  refine V_iconst 3 (by decide) Z d_law_1327 ?_
                                                                                  refine V_iadd Z d_law_1328 ?_
                                                                                  obtain ⟨v619, e620, h⟩ := zB_bind h
                                                                                  refine V_sld Z hsc e620 d_law_1329 ?_
                                                                                  obtain ⟨⟨v622, M623⟩, e621, h⟩ := zB_bind h
                                                                                  refine V_callV (rest := [_]) 3 Z (ok_X6_sheet  e621) cd_X6_sheet zc5 (by decide) rfl w1230 w1231 w1232 rfl d_law_1330 rfl ?_
                                                                                  refine V_icmp_eq 1575 Z (by decide) d_law_1333 (fun c624 => ?_) (fun c624 => ?_)
                                                                                  · have h := zB_pos c624 h
                                                                                    obtain ⟨n625, e626, h⟩ := zB_let h
                                                                                    refine V_iinck 6 6 3 n625 [(3, Value.int n625), (0, Value.ref 4000), (1, Value.ref 0), (2, Value.ref 47)] Z (by decide) (by decide) rfl e626 rfl d_law_1575 ?_
                                                                                    refine V_goto 18 Z (by decide) d_law_1578 ?_
                                                                                    refine V_sub [1, 2, 3, 0] rfl ?_
                                                                                    exact c1_i _ h
                                                                                  · have h := zB_neg c624 h
                                                                                    refine V_iconst 0 (by decide) Z d_law_1336 ?_
                                                                                    have h := c1_r _ h
                                                                                    exact V_lawret Z hsc hy h d_law_1337
                                                                                · skip
                                                                                  rcases zB_ite h with ⟨c627, h⟩ | ⟨c627, h⟩
                                                                                  · refine V_tabE (off := 1305) 39 1338 Z c627 d_law_33 (by decide) ?_
                                                                                    refine V_aload_n 1 Z rfl rfl d_law_1338 ?_
                                                                                    refine V_aload_n 0 Z rfl rfl d_law_1339 ?_
                                                                                    refine V_iload_n 3 Z rfl rfl d_law_1340 ?_
                                                                                    refine V_iconst 1 (by decide) Z d_law_1341 ?_
                                                                                    refine V_iadd Z d_law_1342 ?_
                                                                                    obtain ⟨v628, e629, h⟩ := zB_bind h
                                                                                    refine V_sld Z hsc e629 d_law_1343 ?_
                                                                                    refine V_aload_n 0 Z rfl rfl d_law_1344 ?_
                                                                                    refine V_iload_n 3 Z rfl rfl d_law_1345 ?_
                                                                                    refine V_iconst 2 (by decide) Z d_law_1346 ?_
                                                                                    refine V_iadd Z d_law_1347 ?_
                                                                                    obtain ⟨v630, e631, h⟩ := zB_bind h
                                                                                    refine V_sld Z hsc e631 d_law_1348 ?_
                                                                                    refine V_aload_n 0 Z rfl rfl d_law_1349 ?_
                                                                                    refine V_iload_n 3 Z rfl rfl d_law_1350 ?_
                                                                                    refine V_iconst 3 (by decide) Z d_law_1351 ?_
                                                                                    refine V_iadd Z d_law_1352 ?_
                                                                                    obtain ⟨v632, e633, h⟩ := zB_bind h
                                                                                    refine V_sld Z hsc e633 d_law_1353 ?_
                                                                                    obtain ⟨⟨v635, M636⟩, e634, h⟩ := zB_bind h
                                                                                    refine V_callV (rest := []) 3 Z (ok_X5_write  e634) cd_X5_write zc4 (by decide) rfl w702 w703 w704 rfl d_law_1354 rfl ?_
                                                                                    refine V_aload_n 2 Z rfl rfl d_law_1357 ?_
                                                                                    refine V_aload_n 0 Z rfl rfl d_law_1358 ?_
                                                                                    refine V_iload_n 3 Z rfl rfl d_law_1359 ?_
                                                                                    refine V_iconst 1 (by decide) Z d_law_1360 ?_
                                                                                    refine V_iadd Z d_law_1361 ?_
                                                                                    obtain ⟨v637, e638, h⟩ := zB_bind h
                                                                                    refine V_sld Z hsc e638 d_law_1362 ?_
                                                                                    refine V_aload_n 0 Z rfl rfl d_law_1363 ?_
                                                                                    refine V_iload_n 3 Z rfl rfl d_law_1364 ?_
                                                                                    refine V_iconst 2 (by decide) Z d_law_1365 ?_
                                                                                    refine V_iadd Z d_law_1366 ?_
                                                                                    obtain ⟨v639, e640, h⟩ := zB_bind h
                                                                                    refine V_sld Z hsc e640 d_law_1367 ?_
                                                                                    refine V_aload_n 0 Z rfl rfl d_law_1368 ?_
                                                                                    refine V_iload_n 3 Z rfl rfl d_law_1369 ?_
                                                                                    refine V_iconst 3 (by decide) Z d_law_1370 ?_
                                                                                    refine V_iadd Z d_law_1371 ?_
                                                                                    obtain ⟨v641, e642, h⟩ := zB_bind h
                                                                                    refine V_sld Z hsc e642 d_law_1372 ?_
                                                                                    obtain ⟨⟨v644, M645⟩, e643, h⟩ := zB_bind h
                                                                                    refine V_callV (rest := [_]) 3 Z (ok_X6_write  e643) cd_X6_write zc5 (by decide) rfl w1235 w1236 w1237 rfl d_law_1373 rfl ?_
                                                                                    refine V_icmp_eq 1575 Z (by decide) d_law_1376 (fun c646 => ?_) (fun c646 => ?_)
                                                                                    · have h := zB_pos c646 h
                                                                                      obtain ⟨n647, e648, h⟩ := zB_let h
                                                                                      refine V_iinck 6 6 3 n647 [(3, Value.int n647), (0, Value.ref 4000), (1, Value.ref 0), (2, Value.ref 47)] Z (by decide) (by decide) rfl e648 rfl d_law_1575 ?_
                                                                                      refine V_goto 18 Z (by decide) d_law_1578 ?_
                                                                                      refine V_sub [1, 2, 3, 0] rfl ?_
                                                                                      exact c1_i _ h
                                                                                    · have h := zB_neg c646 h
                                                                                      refine V_iconst 0 (by decide) Z d_law_1379 ?_
                                                                                      have h := c1_r _ h
                                                                                      exact V_lawret Z hsc hy h d_law_1380
                                                                                  · skip
                                                                                    rcases zB_ite h with ⟨c649, h⟩ | ⟨c649, h⟩
                                                                                    · refine V_tabE (off := 1348) 40 1381 Z c649 d_law_33 (by decide) ?_
                                                                                      refine V_aload_n 1 Z rfl rfl d_law_1381 ?_
                                                                                      refine V_aload_n 0 Z rfl rfl d_law_1382 ?_
                                                                                      refine V_iload_n 3 Z rfl rfl d_law_1383 ?_
                                                                                      refine V_iconst 1 (by decide) Z d_law_1384 ?_
                                                                                      refine V_iadd Z d_law_1385 ?_
                                                                                      obtain ⟨v650, e651, h⟩ := zB_bind h
                                                                                      refine V_sld Z hsc e651 d_law_1386 ?_
                                                                                      refine V_aload_n 0 Z rfl rfl d_law_1387 ?_
                                                                                      refine V_iload_n 3 Z rfl rfl d_law_1388 ?_
                                                                                      refine V_iconst 2 (by decide) Z d_law_1389 ?_
                                                                                      refine V_iadd Z d_law_1390 ?_
                                                                                      obtain ⟨v652, e653, h⟩ := zB_bind h
                                                                                      refine V_sld Z hsc e653 d_law_1391 ?_
                                                                                      refine V_aload_n 0 Z rfl rfl d_law_1392 ?_
                                                                                      refine V_iload_n 3 Z rfl rfl d_law_1393 ?_
                                                                                      refine V_iconst 3 (by decide) Z d_law_1394 ?_
                                                                                      refine V_iadd Z d_law_1395 ?_
                                                                                      obtain ⟨v654, e655, h⟩ := zB_bind h
                                                                                      refine V_sld Z hsc e655 d_law_1396 ?_
                                                                                      refine V_aload_n 0 Z rfl rfl d_law_1397 ?_
                                                                                      refine V_iload_n 3 Z rfl rfl d_law_1398 ?_
                                                                                      refine V_iconst 4 (by decide) Z d_law_1399 ?_
                                                                                      refine V_iadd Z d_law_1400 ?_
                                                                                      obtain ⟨v656, e657, h⟩ := zB_bind h
                                                                                      refine V_sld Z hsc e657 d_law_1401 ?_
                                                                                      refine V_aload_n 0 Z rfl rfl d_law_1402 ?_
                                                                                      refine V_iload_n 3 Z rfl rfl d_law_1403 ?_
                                                                                      refine V_iconst 5 (by decide) Z d_law_1404 ?_
                                                                                      refine V_iadd Z d_law_1405 ?_
                                                                                      obtain ⟨v658, e659, h⟩ := zB_bind h
                                                                                      refine V_sld Z hsc e659 d_law_1406 ?_
                                                                                      obtain ⟨⟨v661, M662⟩, e660, h⟩ := zB_bind h
                                                                                      refine V_callV (rest := []) 5 Z (ok_X5_copy  e660) cd_X5_copy zc4 (by decide) rfl w710 w711 w712 rfl d_law_1407 rfl ?_
                                                                                      refine V_aload_n 2 Z rfl rfl d_law_1410 ?_
                                                                                      refine V_aload_n 0 Z rfl rfl d_law_1411 ?_
                                                                                      refine V_iload_n 3 Z rfl rfl d_law_1412 ?_
                                                                                      refine V_iconst 1 (by decide) Z d_law_1413 ?_
                                                                                      refine V_iadd Z d_law_1414 ?_
                                                                                      obtain ⟨v663, e664, h⟩ := zB_bind h
                                                                                      refine V_sld Z hsc e664 d_law_1415 ?_
                                                                                      refine V_aload_n 0 Z rfl rfl d_law_1416 ?_
                                                                                      refine V_iload_n 3 Z rfl rfl d_law_1417 ?_
                                                                                      refine V_iconst 2 (by decide) Z d_law_1418 ?_
                                                                                      refine V_iadd Z d_law_1419 ?_
                                                                                      obtain ⟨v665, e666, h⟩ := zB_bind h
                                                                                      refine V_sld Z hsc e666 d_law_1420 ?_
                                                                                      refine V_aload_n 0 Z rfl rfl d_law_1421 ?_
                                                                                      refine V_iload_n 3 Z rfl rfl d_law_1422 ?_
                                                                                      refine V_iconst 3 (by decide) Z d_law_1423 ?_
                                                                                      refine V_iadd Z d_law_1424 ?_
                                                                                      obtain ⟨v667, e668, h⟩ := zB_bind h
                                                                                      refine V_sld Z hsc e668 d_law_1425 ?_
                                                                                      refine V_aload_n 0 Z rfl rfl d_law_1426 ?_
                                                                                      refine V_iload_n 3 Z rfl rfl d_law_1427 ?_
                                                                                      refine V_iconst 4 (by decide) Z d_law_1428 ?_
                                                                                      refine V_iadd Z d_law_1429 ?_
                                                                                      obtain ⟨v669, e670, h⟩ := zB_bind h
                                                                                      refine V_sld Z hsc e670 d_law_1430 ?_
                                                                                      refine V_aload_n 0 Z rfl rfl d_law_1431 ?_
                                                                                      refine V_iload_n 3 Z rfl rfl d_law_1432 ?_
                                                                                      refine V_iconst 5 (by decide) Z d_law_1433 ?_
                                                                                      refine V_iadd Z d_law_1434 ?_
                                                                                      obtain ⟨v671, e672, h⟩ := zB_bind h
                                                                                      refine V_sld Z hsc e672 d_law_1435 ?_
                                                                                      obtain ⟨⟨v674, M675⟩, e673, h⟩ := zB_bind h
                                                                                      refine V_callV (rest := [_]) 5 Z (ok_X6_copy  e673) cd_X6_copy zc5 (by decide) rfl w1242 w1243 w1244 rfl d_law_1436 rfl ?_
                                                                                      refine V_icmp_eq 1575 Z (by decide) d_law_1439 (fun c676 => ?_) (fun c676 => ?_)
                                                                                      · have h := zB_pos c676 h
                                                                                        obtain ⟨n677, e678, h⟩ := zB_let h
                                                                                        refine V_iinck 6 6 3 n677 [(3, Value.int n677), (0, Value.ref 4000), (1, Value.ref 0), (2, Value.ref 47)] Z (by decide) (by decide) rfl e678 rfl d_law_1575 ?_
                                                                                        refine V_goto 18 Z (by decide) d_law_1578 ?_
                                                                                        refine V_sub [1, 2, 3, 0] rfl ?_
                                                                                        exact c1_i _ h
                                                                                      · have h := zB_neg c676 h
                                                                                        refine V_iconst 0 (by decide) Z d_law_1442 ?_
                                                                                        have h := c1_r _ h
                                                                                        exact V_lawret Z hsc hy h d_law_1443
                                                                                    · skip
                                                                                      rcases zB_ite h with ⟨c679, h⟩ | ⟨c679, h⟩
                                                                                      · refine V_tabE (off := 1411) 41 1444 Z c679 d_law_33 (by decide) ?_
                                                                                        refine V_aload_n 1 Z rfl rfl d_law_1444 ?_
                                                                                        refine V_aload_n 0 Z rfl rfl d_law_1445 ?_
                                                                                        refine V_iload_n 3 Z rfl rfl d_law_1446 ?_
                                                                                        refine V_iconst 1 (by decide) Z d_law_1447 ?_
                                                                                        refine V_iadd Z d_law_1448 ?_
                                                                                        obtain ⟨v680, e681, h⟩ := zB_bind h
                                                                                        refine V_sld Z hsc e681 d_law_1449 ?_
                                                                                        obtain ⟨⟨v683, M684⟩, e682, h⟩ := zB_bind h
                                                                                        refine V_callV (rest := []) 1 Z (ok_X5_load  e682) cd_X5_load zc4 (by decide) rfl w719 w720 w721 rfl d_law_1450 rfl ?_
                                                                                        refine V_aload_n 2 Z rfl rfl d_law_1453 ?_
                                                                                        refine V_aload_n 0 Z rfl rfl d_law_1454 ?_
                                                                                        refine V_iload_n 3 Z rfl rfl d_law_1455 ?_
                                                                                        refine V_iconst 1 (by decide) Z d_law_1456 ?_
                                                                                        refine V_iadd Z d_law_1457 ?_
                                                                                        obtain ⟨v685, e686, h⟩ := zB_bind h
                                                                                        refine V_sld Z hsc e686 d_law_1458 ?_
                                                                                        obtain ⟨⟨v688, M689⟩, e687, h⟩ := zB_bind h
                                                                                        refine V_callV (rest := [_]) 1 Z (ok_X6_load  e687) cd_X6_load zc5 (by decide) rfl w1246 w1247 w1248 rfl d_law_1459 rfl ?_
                                                                                        refine V_icmp_eq 1575 Z (by decide) d_law_1462 (fun c690 => ?_) (fun c690 => ?_)
                                                                                        · have h := zB_pos c690 h
                                                                                          obtain ⟨n691, e692, h⟩ := zB_let h
                                                                                          refine V_iinck 6 6 3 n691 [(3, Value.int n691), (0, Value.ref 4000), (1, Value.ref 0), (2, Value.ref 47)] Z (by decide) (by decide) rfl e692 rfl d_law_1575 ?_
                                                                                          refine V_goto 18 Z (by decide) d_law_1578 ?_
                                                                                          refine V_sub [1, 2, 3, 0] rfl ?_
                                                                                          exact c1_i _ h
                                                                                        · have h := zB_neg c690 h
                                                                                          refine V_iconst 0 (by decide) Z d_law_1465 ?_
                                                                                          have h := c1_r _ h
                                                                                          exact V_lawret Z hsc hy h d_law_1466
                                                                                      · skip
                                                                                        rcases zB_ite h with ⟨c693, h⟩ | ⟨c693, h⟩
                                                                                        · refine V_tabE (off := 1434) 42 1467 Z c693 d_law_33 (by decide) ?_
                                                                                          refine V_aload_n 1 Z rfl rfl d_law_1467 ?_
                                                                                          refine V_aload_n 0 Z rfl rfl d_law_1468 ?_
                                                                                          refine V_iload_n 3 Z rfl rfl d_law_1469 ?_
                                                                                          refine V_iconst 1 (by decide) Z d_law_1470 ?_
                                                                                          refine V_iadd Z d_law_1471 ?_
                                                                                          obtain ⟨v694, e695, h⟩ := zB_bind h
                                                                                          refine V_sld Z hsc e695 d_law_1472 ?_
                                                                                          obtain ⟨⟨v697, M698⟩, e696, h⟩ := zB_bind h
                                                                                          refine V_callV (rest := []) 1 Z (ok_X5_judge  e696) cd_X5_judge zc4 (by decide) rfl w723 w724 w725 rfl d_law_1473 rfl ?_
                                                                                          refine V_aload_n 2 Z rfl rfl d_law_1476 ?_
                                                                                          refine V_aload_n 0 Z rfl rfl d_law_1477 ?_
                                                                                          refine V_iload_n 3 Z rfl rfl d_law_1478 ?_
                                                                                          refine V_iconst 1 (by decide) Z d_law_1479 ?_
                                                                                          refine V_iadd Z d_law_1480 ?_
                                                                                          obtain ⟨v699, e700, h⟩ := zB_bind h
                                                                                          refine V_sld Z hsc e700 d_law_1481 ?_
                                                                                          obtain ⟨⟨v702, M703⟩, e701, h⟩ := zB_bind h
                                                                                          refine V_callV (rest := [_]) 1 Z (ok_X6_judge  e701) cd_X6_judge zc5 (by decide) rfl w1250 w1251 w1252 rfl d_law_1482 rfl ?_
                                                                                          refine V_icmp_eq 1575 Z (by decide) d_law_1485 (fun c704 => ?_) (fun c704 => ?_)
                                                                                          · have h := zB_pos c704 h
                                                                                            obtain ⟨n705, e706, h⟩ := zB_let h
                                                                                            refine V_iinck 6 6 3 n705 [(3, Value.int n705), (0, Value.ref 4000), (1, Value.ref 0), (2, Value.ref 47)] Z (by decide) (by decide) rfl e706 rfl d_law_1575 ?_
                                                                                            refine V_goto 18 Z (by decide) d_law_1578 ?_
                                                                                            refine V_sub [1, 2, 3, 0] rfl ?_
                                                                                            exact c1_i _ h
                                                                                          · have h := zB_neg c704 h
                                                                                            refine V_iconst 0 (by decide) Z d_law_1488 ?_
                                                                                            have h := c1_r _ h
                                                                                            exact V_lawret Z hsc hy h d_law_1489
                                                                                        · skip
                                                                                          rcases zB_ite h with ⟨c707, h⟩ | ⟨c707, h⟩
                                                                                          · refine V_tabE (off := 1457) 43 1490 Z c707 d_law_33 (by decide) ?_
                                                                                            refine V_aload_n 1 Z rfl rfl d_law_1490 ?_
                                                                                            obtain ⟨⟨v709, M710⟩, e708, h⟩ := zB_bind h
                                                                                            refine V_callV (rest := []) 0 Z (ok_X5_image  e708) cd_X5_image zc4 (by decide) rfl w727 w728 w729 rfl d_law_1491 rfl ?_
                                                                                            refine V_aload_n 2 Z rfl rfl d_law_1494 ?_
                                                                                            obtain ⟨⟨v712, M713⟩, e711, h⟩ := zB_bind h
                                                                                            refine V_callV (rest := [_]) 0 Z (ok_X6_image  e711) cd_X6_image zc5 (by decide) rfl w1254 w1255 w1256 rfl d_law_1495 rfl ?_
                                                                                            refine V_icmp_eq 1575 Z (by decide) d_law_1498 (fun c714 => ?_) (fun c714 => ?_)
                                                                                            · have h := zB_pos c714 h
                                                                                              obtain ⟨n715, e716, h⟩ := zB_let h
                                                                                              refine V_iinck 6 6 3 n715 [(3, Value.int n715), (0, Value.ref 4000), (1, Value.ref 0), (2, Value.ref 47)] Z (by decide) (by decide) rfl e716 rfl d_law_1575 ?_
                                                                                              refine V_goto 18 Z (by decide) d_law_1578 ?_
                                                                                              refine V_sub [1, 2, 3, 0] rfl ?_
                                                                                              exact c1_i _ h
                                                                                            · have h := zB_neg c714 h
                                                                                              refine V_iconst 0 (by decide) Z d_law_1501 ?_
                                                                                              have h := c1_r _ h
                                                                                              exact V_lawret Z hsc hy h d_law_1502
                                                                                          · skip
                                                                                            rcases zB_ite h with ⟨c717, h⟩ | ⟨c717, h⟩
                                                                                            · refine V_tabE (off := 1470) 44 1503 Z c717 d_law_33 (by decide) ?_
                                                                                              refine V_aload_n 1 Z rfl rfl d_law_1503 ?_
                                                                                              obtain ⟨⟨v719, M720⟩, e718, h⟩ := zB_bind h
                                                                                              refine V_callV (rest := []) 0 Z (ok_X5_undo  e718) cd_X5_undo zc4 (by decide) rfl w731 w732 w733 rfl d_law_1504 rfl ?_
                                                                                              refine V_aload_n 2 Z rfl rfl d_law_1507 ?_
                                                                                              obtain ⟨⟨v722, M723⟩, e721, h⟩ := zB_bind h
                                                                                              refine V_callV (rest := [_]) 0 Z (ok_X6_undo  e721) cd_X6_undo zc5 (by decide) rfl w1258 w1259 w1260 rfl d_law_1508 rfl ?_
                                                                                              refine V_icmp_eq 1575 Z (by decide) d_law_1511 (fun c724 => ?_) (fun c724 => ?_)
                                                                                              · have h := zB_pos c724 h
                                                                                                obtain ⟨n725, e726, h⟩ := zB_let h
                                                                                                refine V_iinck 6 6 3 n725 [(3, Value.int n725), (0, Value.ref 4000), (1, Value.ref 0), (2, Value.ref 47)] Z (by decide) (by decide) rfl e726 rfl d_law_1575 ?_
                                                                                                refine V_goto 18 Z (by decide) d_law_1578 ?_
                                                                                                refine V_sub [1, 2, 3, 0] rfl ?_
                                                                                                exact c1_i _ h
                                                                                              · have h := zB_neg c724 h
                                                                                                refine V_iconst 0 (by decide) Z d_law_1514 ?_
                                                                                                have h := c1_r _ h
                                                                                                exact V_lawret Z hsc hy h d_law_1515
                                                                                            · skip
                                                                                              rcases zB_ite h with ⟨c727, h⟩ | ⟨c727, h⟩
                                                                                              · refine V_tabE (off := 1483) 45 1516 Z c727 d_law_33 (by decide) ?_
                                                                                                refine V_aload_n 1 Z rfl rfl d_law_1516 ?_
                                                                                                obtain ⟨⟨v729, M730⟩, e728, h⟩ := zB_bind h
                                                                                                refine V_callV (rest := []) 0 Z (ok_X5_tear  e728) cd_X5_tear zc4 (by decide) rfl w735 w736 w737 rfl d_law_1517 rfl ?_
                                                                                                refine V_aload_n 2 Z rfl rfl d_law_1520 ?_
                                                                                                obtain ⟨⟨v732, M733⟩, e731, h⟩ := zB_bind h
                                                                                                refine V_callV (rest := [_]) 0 Z (ok_X6_tear  e731) cd_X6_tear zc5 (by decide) rfl w1262 w1263 w1264 rfl d_law_1521 rfl ?_
                                                                                                refine V_icmp_eq 1575 Z (by decide) d_law_1524 (fun c734 => ?_) (fun c734 => ?_)
                                                                                                · have h := zB_pos c734 h
                                                                                                  obtain ⟨n735, e736, h⟩ := zB_let h
                                                                                                  refine V_iinck 6 6 3 n735 [(3, Value.int n735), (0, Value.ref 4000), (1, Value.ref 0), (2, Value.ref 47)] Z (by decide) (by decide) rfl e736 rfl d_law_1575 ?_
                                                                                                  refine V_goto 18 Z (by decide) d_law_1578 ?_
                                                                                                  refine V_sub [1, 2, 3, 0] rfl ?_
                                                                                                  exact c1_i _ h
                                                                                                · have h := zB_neg c734 h
                                                                                                  refine V_iconst 0 (by decide) Z d_law_1527 ?_
                                                                                                  have h := c1_r _ h
                                                                                                  exact V_lawret Z hsc hy h d_law_1528
                                                                                              · skip
                                                                                                rcases zB_ite h with ⟨c737, h⟩ | ⟨c737, h⟩
                                                                                                · refine V_tabE (off := 1496) 46 1529 Z c737 d_law_33 (by decide) ?_
                                                                                                  refine V_aload_n 1 Z rfl rfl d_law_1529 ?_
                                                                                                  refine V_aload_n 0 Z rfl rfl d_law_1530 ?_
                                                                                                  refine V_iload_n 3 Z rfl rfl d_law_1531 ?_
                                                                                                  refine V_iconst 1 (by decide) Z d_law_1532 ?_
                                                                                                  refine V_iadd Z d_law_1533 ?_
                                                                                                  obtain ⟨v738, e739, h⟩ := zB_bind h
                                                                                                  refine V_sld Z hsc e739 d_law_1534 ?_
                                                                                                  obtain ⟨⟨v741, M742⟩, e740, h⟩ := zB_bind h
                                                                                                  refine V_callV (rest := []) 1 Z (ok_X5_count  e740) cd_X5_count zc4 (by decide) rfl w739 w740 w741 rfl d_law_1535 rfl ?_
                                                                                                  refine V_aload_n 2 Z rfl rfl d_law_1538 ?_
                                                                                                  refine V_aload_n 0 Z rfl rfl d_law_1539 ?_
                                                                                                  refine V_iload_n 3 Z rfl rfl d_law_1540 ?_
                                                                                                  refine V_iconst 1 (by decide) Z d_law_1541 ?_
                                                                                                  refine V_iadd Z d_law_1542 ?_
                                                                                                  obtain ⟨v743, e744, h⟩ := zB_bind h
                                                                                                  refine V_sld Z hsc e744 d_law_1543 ?_
                                                                                                  obtain ⟨⟨v746, M747⟩, e745, h⟩ := zB_bind h
                                                                                                  refine V_callV (rest := [_]) 1 Z (ok_X6_count  e745) cd_X6_count zc5 (by decide) rfl w1266 w1267 w1268 rfl d_law_1544 rfl ?_
                                                                                                  refine V_icmp_eq 1575 Z (by decide) d_law_1547 (fun c748 => ?_) (fun c748 => ?_)
                                                                                                  · have h := zB_pos c748 h
                                                                                                    obtain ⟨n749, e750, h⟩ := zB_let h
                                                                                                    refine V_iinck 6 6 3 n749 [(3, Value.int n749), (0, Value.ref 4000), (1, Value.ref 0), (2, Value.ref 47)] Z (by decide) (by decide) rfl e750 rfl d_law_1575 ?_
                                                                                                    refine V_goto 18 Z (by decide) d_law_1578 ?_
                                                                                                    refine V_sub [1, 2, 3, 0] rfl ?_
                                                                                                    exact c1_i _ h
                                                                                                  · have h := zB_neg c748 h
                                                                                                    refine V_iconst 0 (by decide) Z d_law_1550 ?_
                                                                                                    have h := c1_r _ h
                                                                                                    exact V_lawret Z hsc hy h d_law_1551
                                                                                                · skip
                                                                                                  rcases zB_ite h with ⟨c751, h⟩ | ⟨c751, h⟩
                                                                                                  · refine V_tabE (off := 1519) 47 1552 Z c751 d_law_33 (by decide) ?_
                                                                                                    refine V_aload_n 1 Z rfl rfl d_law_1552 ?_
                                                                                                    refine V_aload_n 0 Z rfl rfl d_law_1553 ?_
                                                                                                    refine V_iload_n 3 Z rfl rfl d_law_1554 ?_
                                                                                                    refine V_iconst 1 (by decide) Z d_law_1555 ?_
                                                                                                    refine V_iadd Z d_law_1556 ?_
                                                                                                    obtain ⟨v752, e753, h⟩ := zB_bind h
                                                                                                    refine V_sld Z hsc e753 d_law_1557 ?_
                                                                                                    obtain ⟨⟨v755, M756⟩, e754, h⟩ := zB_bind h
                                                                                                    refine V_callV (rest := []) 1 Z (ok_X5_status  e754) cd_X5_status zc4 (by decide) rfl w747 w748 w749 rfl d_law_1558 rfl ?_
                                                                                                    refine V_aload_n 2 Z rfl rfl d_law_1561 ?_
                                                                                                    refine V_aload_n 0 Z rfl rfl d_law_1562 ?_
                                                                                                    refine V_iload_n 3 Z rfl rfl d_law_1563 ?_
                                                                                                    refine V_iconst 1 (by decide) Z d_law_1564 ?_
                                                                                                    refine V_iadd Z d_law_1565 ?_
                                                                                                    obtain ⟨v757, e758, h⟩ := zB_bind h
                                                                                                    refine V_sld Z hsc e758 d_law_1566 ?_
                                                                                                    obtain ⟨⟨v760, M761⟩, e759, h⟩ := zB_bind h
                                                                                                    refine V_callV (rest := [_]) 1 Z (ok_X6_status  e759) cd_X6_status zc5 (by decide) rfl w1270 w1271 w1272 rfl d_law_1567 rfl ?_
                                                                                                    refine V_icmp_eq 1575 Z (by decide) d_law_1570 (fun c762 => ?_) (fun c762 => ?_)
                                                                                                    · have h := zB_pos c762 h
                                                                                                      obtain ⟨n763, e764, h⟩ := zB_let h
                                                                                                      refine V_iinck 6 6 3 n763 [(3, Value.int n763), (0, Value.ref 4000), (1, Value.ref 0), (2, Value.ref 47)] Z (by decide) (by decide) rfl e764 rfl d_law_1575 ?_
                                                                                                      refine V_goto 18 Z (by decide) d_law_1578 ?_
                                                                                                      refine V_sub [1, 2, 3, 0] rfl ?_
                                                                                                      exact c1_i _ h
                                                                                                    · have h := zB_neg c762 h
                                                                                                      refine V_iconst 0 (by decide) Z d_law_1573 ?_
                                                                                                      have h := c1_r _ h
                                                                                                      exact V_lawret Z hsc hy h d_law_1574
                                                                                                  · skip
                                                                                                    refine V_tabOut 1575 Z d_law_33 (z_outL (l := [0, 1, 2, 3, 4, 5, 6, 7, 8, 9, 10, 11, 12, 13, 14, 15, 16, 17, 18, 19, 20, 21, 22, 23, 24, 25, 26, 27, 28, 29, 30, 31, 32, 33, 34, 35, 36, 37, 38, 39, 40, 41, 42, 43, 44, 45, 46, 47]) (List.forall_mem_cons.mpr ⟨c4, (List.forall_mem_cons.mpr ⟨c22, (List.forall_mem_cons.mpr ⟨c40, (List.forall_mem_cons.mpr ⟨c62, (List.forall_mem_cons.mpr ⟨c84, (List.forall_mem_cons.mpr ⟨c102, (List.forall_mem_cons.mpr ⟨c116, (List.forall_mem_cons.mpr ⟨c134, (List.forall_mem_cons.mpr ⟨c148, (List.forall_mem_cons.mpr ⟨c162, (List.forall_mem_cons.mpr ⟨c184, (List.forall_mem_cons.mpr ⟨c198, (List.forall_mem_cons.mpr ⟨c216, (List.forall_mem_cons.mpr ⟨c234, (List.forall_mem_cons.mpr ⟨c248, (List.forall_mem_cons.mpr ⟨c262, (List.forall_mem_cons.mpr ⟨c284, (List.forall_mem_cons.mpr ⟨c298, (List.forall_mem_cons.mpr ⟨c316, (List.forall_mem_cons.mpr ⟨c334, (List.forall_mem_cons.mpr ⟨c344, (List.forall_mem_cons.mpr ⟨c354, (List.forall_mem_cons.mpr ⟨c372, (List.forall_mem_cons.mpr ⟨c390, (List.forall_mem_cons.mpr ⟨c398, (List.forall_mem_cons.mpr ⟨c412, (List.forall_mem_cons.mpr ⟨c421, (List.forall_mem_cons.mpr ⟨c435, (List.forall_mem_cons.mpr ⟨c449, (List.forall_mem_cons.mpr ⟨c467, (List.forall_mem_cons.mpr ⟨c485, (List.forall_mem_cons.mpr ⟨c499, (List.forall_mem_cons.mpr ⟨c517, (List.forall_mem_cons.mpr ⟨c531, (List.forall_mem_cons.mpr ⟨c549, (List.forall_mem_cons.mpr ⟨c559, (List.forall_mem_cons.mpr ⟨c569, (List.forall_mem_cons.mpr ⟨c587, (List.forall_mem_cons.mpr ⟨c605, (List.forall_mem_cons.mpr ⟨c627, (List.forall_mem_cons.mpr ⟨c649, (List.forall_mem_cons.mpr ⟨c679, (List.forall_mem_cons.mpr ⟨c693, (List.forall_mem_cons.mpr ⟨c707, (List.forall_mem_cons.mpr ⟨c717, (List.forall_mem_cons.mpr ⟨c727, (List.forall_mem_cons.mpr ⟨c737, (List.forall_mem_cons.mpr ⟨c751, (fun _ h9 => absurd h9 List.not_mem_nil)⟩)⟩)⟩)⟩)⟩)⟩)⟩)⟩)⟩)⟩)⟩)⟩)⟩)⟩)⟩)⟩)⟩)⟩)⟩)⟩)⟩)⟩)⟩)⟩)⟩)⟩)⟩)⟩)⟩)⟩)⟩)⟩)⟩)⟩)⟩)⟩)⟩)⟩)⟩)⟩)⟩)⟩)⟩)⟩)⟩)⟩)⟩)⟩) (by decide +kernel)) (by decide) ?_
                                                                                                    obtain ⟨n765, e766, h⟩ := zB_let h
                                                                                                    refine V_iinck 6 6 3 n765 [(3, Value.int n765), (0, Value.ref 4000), (1, Value.ref 0), (2, Value.ref 47)] Z (by decide) (by decide) rfl e766 rfl d_law_1575 ?_
                                                                                                    refine V_goto 18 Z (by decide) d_law_1578 ?_
                                                                                                    refine V_sub [1, 2, 3, 0] rfl ?_
                                                                                                    exact c1_i _ h
