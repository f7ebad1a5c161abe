/-! the law's instructions -/
theorem dl_306 : decode code 306 = .ok (.iload_n 3, 1) := by decide +kernel
theorem dl_307 : decode code 307 = .ok (.iconst 3, 1) := by decide +kernel
theorem dl_308 : decode code 308 = .ok (.iadd, 1) := by decide +kernel
theorem dl_309 : decode code 309 = .ok (.iaload, 1) := by decide +kernel
theorem dl_310 : decode code 310 = .ok (.aload_n 0, 1) := by decide +kernel
theorem dl_311 : decode code 311 = .ok (.iload_n 3, 1) := by decide +kernel
theorem dl_312 : decode code 312 = .ok (.iconst 4, 1) := by decide +kernel
theorem dl_313 : decode code 313 = .ok (.iadd, 1) := by decide +kernel
theorem dl_314 : decode code 314 = .ok (.iaload, 1) := by decide +kernel
theorem dl_315 : decode code 315 = .ok (.invokevirtual 27, 3) := by decide +kernel
theorem dl_318 : decode code 318 = .ok (.if_icmp .eq 822, 3) := by decide +kernel
theorem dl_321 : decode code 321 = .ok (.iconst 0, 1) := by decide +kernel
theorem dl_322 : decode code 322 = .ok (.ireturn, 1) := by decide +kernel
theorem dl_323 : decode code 323 = .ok (.aload_n 1, 1) := by decide +kernel
theorem dl_324 : decode code 324 = .ok (.aload_n 0, 1) := by decide +kernel
theorem dl_325 : decode code 325 = .ok (.iload_n 3, 1) := by decide +kernel
theorem dl_326 : decode code 326 = .ok (.iconst 1, 1) := by decide +kernel
theorem dl_327 : decode code 327 = .ok (.iadd, 1) := by decide +kernel
theorem dl_328 : decode code 328 = .ok (.iaload, 1) := by decide +kernel
theorem dl_329 : decode code 329 = .ok (.aload_n 0, 1) := by decide +kernel
theorem dl_330 : decode code 330 = .ok (.iload_n 3, 1) := by decide +kernel
theorem dl_331 : decode code 331 = .ok (.iconst 2, 1) := by decide +kernel
theorem dl_332 : decode code 332 = .ok (.iadd, 1) := by decide +kernel
theorem dl_333 : decode code 333 = .ok (.iaload, 1) := by decide +kernel
theorem dl_334 : decode code 334 = .ok (.aload_n 0, 1) := by decide +kernel
theorem dl_335 : decode code 335 = .ok (.iload_n 3, 1) := by decide +kernel
theorem dl_336 : decode code 336 = .ok (.iconst 3, 1) := by decide +kernel
theorem dl_337 : decode code 337 = .ok (.iadd, 1) := by decide +kernel
theorem dl_338 : decode code 338 = .ok (.iaload, 1) := by decide +kernel
theorem dl_339 : decode code 339 = .ok (.aload_n 0, 1) := by decide +kernel
theorem dl_340 : decode code 340 = .ok (.iload_n 3, 1) := by decide +kernel
theorem dl_341 : decode code 341 = .ok (.iconst 4, 1) := by decide +kernel
theorem dl_342 : decode code 342 = .ok (.iadd, 1) := by decide +kernel
theorem dl_343 : decode code 343 = .ok (.iaload, 1) := by decide +kernel
theorem dl_344 : decode code 344 = .ok (.aload_n 0, 1) := by decide +kernel
theorem dl_345 : decode code 345 = .ok (.iload_n 3, 1) := by decide +kernel
theorem dl_346 : decode code 346 = .ok (.iconst 5, 1) := by decide +kernel
theorem dl_347 : decode code 347 = .ok (.iadd, 1) := by decide +kernel
theorem dl_348 : decode code 348 = .ok (.iaload, 1) := by decide +kernel
theorem dl_349 : decode code 349 = .ok (.invokevirtual 28, 3) := by decide +kernel
theorem dl_352 : decode code 352 = .ok (.aload_n 2, 1) := by decide +kernel
theorem dl_353 : decode code 353 = .ok (.aload_n 0, 1) := by decide +kernel
theorem dl_354 : decode code 354 = .ok (.iload_n 3, 1) := by decide +kernel
theorem dl_355 : decode code 355 = .ok (.iconst 1, 1) := by decide +kernel
theorem dl_356 : decode code 356 = .ok (.iadd, 1) := by decide +kernel
theorem dl_357 : decode code 357 = .ok (.iaload, 1) := by decide +kernel
theorem dl_358 : decode code 358 = .ok (.aload_n 0, 1) := by decide +kernel
theorem dl_359 : decode code 359 = .ok (.iload_n 3, 1) := by decide +kernel
theorem dl_360 : decode code 360 = .ok (.iconst 2, 1) := by decide +kernel
theorem dl_361 : decode code 361 = .ok (.iadd, 1) := by decide +kernel
theorem dl_362 : decode code 362 = .ok (.iaload, 1) := by decide +kernel
theorem dl_363 : decode code 363 = .ok (.aload_n 0, 1) := by decide +kernel
theorem dl_364 : decode code 364 = .ok (.iload_n 3, 1) := by decide +kernel
theorem dl_365 : decode code 365 = .ok (.iconst 3, 1) := by decide +kernel
theorem dl_366 : decode code 366 = .ok (.iadd, 1) := by decide +kernel
theorem dl_367 : decode code 367 = .ok (.iaload, 1) := by decide +kernel
theorem dl_368 : decode code 368 = .ok (.aload_n 0, 1) := by decide +kernel
theorem dl_369 : decode code 369 = .ok (.iload_n 3, 1) := by decide +kernel
theorem dl_370 : decode code 370 = .ok (.iconst 4, 1) := by decide +kernel
theorem dl_371 : decode code 371 = .ok (.iadd, 1) := by decide +kernel
theorem dl_372 : decode code 372 = .ok (.iaload, 1) := by decide +kernel
theorem dl_373 : decode code 373 = .ok (.aload_n 0, 1) := by decide +kernel
theorem dl_374 : decode code 374 = .ok (.iload_n 3, 1) := by decide +kernel
theorem dl_375 : decode code 375 = .ok (.iconst 5, 1) := by decide +kernel
theorem dl_376 : decode code 376 = .ok (.iadd, 1) := by decide +kernel
theorem dl_377 : decode code 377 = .ok (.iaload, 1) := by decide +kernel
theorem dl_378 : decode code 378 = .ok (.invokevirtual 31, 3) := by decide +kernel
theorem dl_381 : decode code 381 = .ok (.if_icmp .eq 759, 3) := by decide +kernel
theorem dl_384 : decode code 384 = .ok (.iconst 0, 1) := by decide +kernel
theorem dl_385 : decode code 385 = .ok (.ireturn, 1) := by decide +kernel
theorem dl_386 : decode code 386 = .ok (.aload_n 1, 1) := by decide +kernel
theorem dl_387 : decode code 387 = .ok (.aload_n 0, 1) := by decide +kernel
theorem dl_388 : decode code 388 = .ok (.iload_n 3, 1) := by decide +kernel
theorem dl_389 : decode code 389 = .ok (.iconst 1, 1) := by decide +kernel
theorem dl_390 : decode code 390 = .ok (.iadd, 1) := by decide +kernel
theorem dl_391 : decode code 391 = .ok (.iaload, 1) := by decide +kernel
theorem dl_392 : decode code 392 = .ok (.invokevirtual 32, 3) := by decide +kernel
theorem dl_395 : decode code 395 = .ok (.aload_n 2, 1) := by decide +kernel
theorem dl_396 : decode code 396 = .ok (.aload_n 0, 1) := by decide +kernel
theorem dl_397 : decode code 397 = .ok (.iload_n 3, 1) := by decide +kernel
theorem dl_398 : decode code 398 = .ok (.iconst 1, 1) := by decide +kernel
theorem dl_399 : decode code 399 = .ok (.iadd, 1) := by decide +kernel
theorem dl_400 : decode code 400 = .ok (.iaload, 1) := by decide +kernel
theorem dl_401 : decode code 401 = .ok (.invokevirtual 35, 3) := by decide +kernel
theorem dl_404 : decode code 404 = .ok (.if_icmp .eq 736, 3) := by decide +kernel
theorem dl_407 : decode code 407 = .ok (.iconst 0, 1) := by decide +kernel
theorem dl_408 : decode code 408 = .ok (.ireturn, 1) := by decide +kernel
theorem dl_409 : decode code 409 = .ok (.aload_n 1, 1) := by decide +kernel
theorem dl_410 : decode code 410 = .ok (.aload_n 0, 1) := by decide +kernel
theorem dl_411 : decode code 411 = .ok (.iload_n 3, 1) := by decide +kernel
theorem dl_412 : decode code 412 = .ok (.iconst 1, 1) := by decide +kernel
theorem dl_413 : decode code 413 = .ok (.iadd, 1) := by decide +kernel
theorem dl_414 : decode code 414 = .ok (.iaload, 1) := by decide +kernel
theorem dl_415 : decode code 415 = .ok (.invokevirtual 36, 3) := by decide +kernel
theorem dl_418 : decode code 418 = .ok (.aload_n 2, 1) := by decide +kernel
theorem dl_419 : decode code 419 = .ok (.aload_n 0, 1) := by decide +kernel
theorem dl_420 : decode code 420 = .ok (.iload_n 3, 1) := by decide +kernel
theorem dl_421 : decode code 421 = .ok (.iconst 1, 1) := by decide +kernel
theorem dl_422 : decode code 422 = .ok (.iadd, 1) := by decide +kernel
theorem dl_423 : decode code 423 = .ok (.iaload, 1) := by decide +kernel
theorem dl_424 : decode code 424 = .ok (.invokevirtual 39, 3) := by decide +kernel
theorem dl_427 : decode code 427 = .ok (.if_icmp .eq 713, 3) := by decide +kernel
theorem dl_430 : decode code 430 = .ok (.iconst 0, 1) := by decide +kernel
theorem dl_431 : decode code 431 = .ok (.ireturn, 1) := by decide +kernel
theorem dl_432 : decode code 432 = .ok (.aload_n 1, 1) := by decide +kernel
theorem dl_433 : decode code 433 = .ok (.aload_n 0, 1) := by decide +kernel
theorem dl_434 : decode code 434 = .ok (.iload_n 3, 1) := by decide +kernel
theorem dl_435 : decode code 435 = .ok (.iconst 1, 1) := by decide +kernel
theorem dl_436 : decode code 436 = .ok (.iadd, 1) := by decide +kernel
theorem dl_437 : decode code 437 = .ok (.iaload, 1) := by decide +kernel
theorem dl_438 : decode code 438 = .ok (.invokevirtual 40, 3) := by decide +kernel
theorem dl_441 : decode code 441 = .ok (.aload_n 2, 1) := by decide +kernel
theorem dl_442 : decode code 442 = .ok (.aload_n 0, 1) := by decide +kernel
theorem dl_443 : decode code 443 = .ok (.iload_n 3, 1) := by decide +kernel
theorem dl_444 : decode code 444 = .ok (.iconst 1, 1) := by decide +kernel
theorem dl_445 : decode code 445 = .ok (.iadd, 1) := by decide +kernel
theorem dl_446 : decode code 446 = .ok (.iaload, 1) := by decide +kernel
theorem dl_447 : decode code 447 = .ok (.invokevirtual 43, 3) := by decide +kernel
theorem dl_450 : decode code 450 = .ok (.if_icmp .eq 690, 3) := by decide +kernel
theorem dl_453 : decode code 453 = .ok (.iconst 0, 1) := by decide +kernel
theorem dl_454 : decode code 454 = .ok (.ireturn, 1) := by decide +kernel
theorem dl_455 : decode code 455 = .ok (.aload_n 1, 1) := by decide +kernel
theorem dl_456 : decode code 456 = .ok (.aload_n 0, 1) := by decide +kernel
theorem dl_457 : decode code 457 = .ok (.iload_n 3, 1) := by decide +kernel
theorem dl_458 : decode code 458 = .ok (.iconst 1, 1) := by decide +kernel
theorem dl_459 : decode code 459 = .ok (.iadd, 1) := by decide +kernel
theorem dl_460 : decode code 460 = .ok (.iaload, 1) := by decide +kernel
theorem dl_461 : decode code 461 = .ok (.invokevirtual 44, 3) := by decide +kernel
theorem dl_464 : decode code 464 = .ok (.aload_n 2, 1) := by decide +kernel
theorem dl_465 : decode code 465 = .ok (.aload_n 0, 1) := by decide +kernel
