theorem dL_law_18 : decode cL_law 18 = .ok (.iload_n 3, 1) := by decide +kernel
theorem dL_law_19 : decode cL_law 19 = .ok (.aload_n 0, 1) := by decide +kernel
theorem dL_law_20 : decode cL_law 20 = .ok (.arraylength, 1) := by decide +kernel
theorem dL_law_21 : decode cL_law 21 = .ok (.bipush 6, 2) := by decide +kernel
theorem dL_law_23 : decode cL_law 23 = .ok (.isub, 1) := by decide +kernel
theorem dL_law_24 : decode cL_law 24 = .ok (.if_icmp .gt 1790, 3) := by decide +kernel
theorem dL_law_244 : decode cL_law 244 = .ok (.aload_n 1, 1) := by decide +kernel
theorem dL_law_245 : decode cL_law 245 = .ok (.aload_n 0, 1) := by decide +kernel
theorem dL_law_246 : decode cL_law 246 = .ok (.iload_n 3, 1) := by decide +kernel
theorem dL_law_247 : decode cL_law 247 = .ok (.iconst 1, 1) := by decide +kernel
theorem dL_law_248 : decode cL_law 248 = .ok (.iadd, 1) := by decide +kernel
theorem dL_law_249 : decode cL_law 249 = .ok (.iaload, 1) := by decide +kernel
theorem dL_law_250 : decode cL_law 250 = .ok (.aload_n 0, 1) := by decide +kernel
theorem dL_law_251 : decode cL_law 251 = .ok (.iload_n 3, 1) := by decide +kernel
theorem dL_law_252 : decode cL_law 252 = .ok (.iconst 2, 1) := by decide +kernel
theorem dL_law_253 : decode cL_law 253 = .ok (.iadd, 1) := by decide +kernel
theorem dL_law_254 : decode cL_law 254 = .ok (.iaload, 1) := by decide +kernel
theorem dL_law_255 : decode cL_law 255 = .ok (.aload_n 0, 1) := by decide +kernel
theorem dL_law_256 : decode cL_law 256 = .ok (.iload_n 3, 1) := by decide +kernel
theorem dL_law_257 : decode cL_law 257 = .ok (.iconst 3, 1) := by decide +kernel
theorem dL_law_258 : decode cL_law 258 = .ok (.iadd, 1) := by decide +kernel
theorem dL_law_259 : decode cL_law 259 = .ok (.iaload, 1) := by decide +kernel
theorem dL_law_260 : decode cL_law 260 = .ok (.invokevirtual 13, 3) := by decide +kernel
theorem dL_law_263 : decode cL_law 263 = .ok (.aload_n 2, 1) := by decide +kernel
theorem dL_law_264 : decode cL_law 264 = .ok (.aload_n 0, 1) := by decide +kernel
theorem dL_law_265 : decode cL_law 265 = .ok (.iload_n 3, 1) := by decide +kernel
theorem dL_law_266 : decode cL_law 266 = .ok (.iconst 1, 1) := by decide +kernel
theorem dL_law_267 : decode cL_law 267 = .ok (.iadd, 1) := by decide +kernel
theorem dL_law_268 : decode cL_law 268 = .ok (.iaload, 1) := by decide +kernel
theorem dL_law_269 : decode cL_law 269 = .ok (.aload_n 0, 1) := by decide +kernel
theorem dL_law_270 : decode cL_law 270 = .ok (.iload_n 3, 1) := by decide +kernel
theorem dL_law_271 : decode cL_law 271 = .ok (.iconst 2, 1) := by decide +kernel
theorem dL_law_272 : decode cL_law 272 = .ok (.iadd, 1) := by decide +kernel
theorem dL_law_273 : decode cL_law 273 = .ok (.iaload, 1) := by decide +kernel
theorem dL_law_274 : decode cL_law 274 = .ok (.aload_n 0, 1) := by decide +kernel
theorem dL_law_275 : decode cL_law 275 = .ok (.iload_n 3, 1) := by decide +kernel
theorem dL_law_276 : decode cL_law 276 = .ok (.iconst 3, 1) := by decide +kernel
theorem dL_law_277 : decode cL_law 277 = .ok (.iadd, 1) := by decide +kernel
theorem dL_law_278 : decode cL_law 278 = .ok (.iaload, 1) := by decide +kernel
theorem dL_law_279 : decode cL_law 279 = .ok (.invokevirtual 17, 3) := by decide +kernel
theorem dL_law_282 : decode cL_law 282 = .ok (.if_icmp .eq 1526, 3) := by decide +kernel
theorem dL_law_287 : decode cL_law 287 = .ok (.aload_n 1, 1) := by decide +kernel
theorem dL_law_288 : decode cL_law 288 = .ok (.aload_n 0, 1) := by decide +kernel
theorem dL_law_289 : decode cL_law 289 = .ok (.iload_n 3, 1) := by decide +kernel
theorem dL_law_290 : decode cL_law 290 = .ok (.iconst 1, 1) := by decide +kernel
theorem dL_law_291 : decode cL_law 291 = .ok (.iadd, 1) := by decide +kernel
theorem dL_law_292 : decode cL_law 292 = .ok (.iaload, 1) := by decide +kernel
theorem dL_law_293 : decode cL_law 293 = .ok (.aload_n 0, 1) := by decide +kernel
theorem dL_law_294 : decode cL_law 294 = .ok (.iload_n 3, 1) := by decide +kernel
theorem dL_law_295 : decode cL_law 295 = .ok (.iconst 2, 1) := by decide +kernel
theorem dL_law_296 : decode cL_law 296 = .ok (.iadd, 1) := by decide +kernel
theorem dL_law_297 : decode cL_law 297 = .ok (.iaload, 1) := by decide +kernel
theorem dL_law_298 : decode cL_law 298 = .ok (.aload_n 0, 1) := by decide +kernel
theorem dL_law_299 : decode cL_law 299 = .ok (.iload_n 3, 1) := by decide +kernel
theorem dL_law_300 : decode cL_law 300 = .ok (.iconst 3, 1) := by decide +kernel
theorem dL_law_301 : decode cL_law 301 = .ok (.iadd, 1) := by decide +kernel
theorem dL_law_302 : decode cL_law 302 = .ok (.iaload, 1) := by decide +kernel
theorem dL_law_303 : decode cL_law 303 = .ok (.i2l, 1) := by decide +kernel
theorem dL_law_304 : decode cL_law 304 = .ok (.bipush 32, 2) := by decide +kernel
theorem dL_law_306 : decode cL_law 306 = .ok (.lshl, 1) := by decide +kernel
theorem dL_law_307 : decode cL_law 307 = .ok (.aload_n 0, 1) := by decide +kernel
theorem dL_law_308 : decode cL_law 308 = .ok (.iload_n 3, 1) := by decide +kernel
theorem dL_law_309 : decode cL_law 309 = .ok (.iconst 4, 1) := by decide +kernel
theorem dL_law_310 : decode cL_law 310 = .ok (.iadd, 1) := by decide +kernel
theorem dL_law_311 : decode cL_law 311 = .ok (.iaload, 1) := by decide +kernel
theorem dL_law_312 : decode cL_law 312 = .ok (.i2l, 1) := by decide +kernel
theorem dL_law_313 : decode cL_law 313 = .ok (.ldc2_w 18, 3) := by decide +kernel
theorem dL_law_316 : decode cL_law 316 = .ok (.land, 1) := by decide +kernel
theorem dL_law_317 : decode cL_law 317 = .ok (.lor, 1) := by decide +kernel
theorem dL_law_318 : decode cL_law 318 = .ok (.invokevirtual 20, 3) := by decide +kernel
theorem dL_law_321 : decode cL_law 321 = .ok (.aload_n 2, 1) := by decide +kernel
theorem dL_law_322 : decode cL_law 322 = .ok (.aload_n 0, 1) := by decide +kernel
theorem dL_law_323 : decode cL_law 323 = .ok (.iload_n 3, 1) := by decide +kernel
theorem dL_law_324 : decode cL_law 324 = .ok (.iconst 1, 1) := by decide +kernel
theorem dL_law_325 : decode cL_law 325 = .ok (.iadd, 1) := by decide +kernel
theorem dL_law_326 : decode cL_law 326 = .ok (.iaload, 1) := by decide +kernel
theorem dL_law_327 : decode cL_law 327 = .ok (.aload_n 0, 1) := by decide +kernel
theorem dL_law_328 : decode cL_law 328 = .ok (.iload_n 3, 1) := by decide +kernel
theorem dL_law_329 : decode cL_law 329 = .ok (.iconst 2, 1) := by decide +kernel
theorem dL_law_330 : decode cL_law 330 = .ok (.iadd, 1) := by decide +kernel
theorem dL_law_331 : decode cL_law 331 = .ok (.iaload, 1) := by decide +kernel
theorem dL_law_332 : decode cL_law 332 = .ok (.aload_n 0, 1) := by decide +kernel
theorem dL_law_333 : decode cL_law 333 = .ok (.iload_n 3, 1) := by decide +kernel
theorem dL_law_334 : decode cL_law 334 = .ok (.iconst 3, 1) := by decide +kernel
theorem dL_law_335 : decode cL_law 335 = .ok (.iadd, 1) := by decide +kernel
theorem dL_law_336 : decode cL_law 336 = .ok (.iaload, 1) := by decide +kernel
theorem dL_law_337 : decode cL_law 337 = .ok (.i2l, 1) := by decide +kernel
theorem dL_law_338 : decode cL_law 338 = .ok (.bipush 32, 2) := by decide +kernel
theorem dL_law_340 : decode cL_law 340 = .ok (.lshl, 1) := by decide +kernel
theorem dL_law_341 : decode cL_law 341 = .ok (.aload_n 0, 1) := by decide +kernel
theorem dL_law_342 : decode cL_law 342 = .ok (.iload_n 3, 1) := by decide +kernel
theorem dL_law_343 : decode cL_law 343 = .ok (.iconst 4, 1) := by decide +kernel
theorem dL_law_344 : decode cL_law 344 = .ok (.iadd, 1) := by decide +kernel
theorem dL_law_345 : decode cL_law 345 = .ok (.iaload, 1) := by decide +kernel
theorem dL_law_346 : decode cL_law 346 = .ok (.i2l, 1) := by decide +kernel
theorem dL_law_347 : decode cL_law 347 = .ok (.ldc2_w 18, 3) := by decide +kernel
theorem dL_law_350 : decode cL_law 350 = .ok (.land, 1) := by decide +kernel
theorem dL_law_351 : decode cL_law 351 = .ok (.lor, 1) := by decide +kernel
theorem dL_law_352 : decode cL_law 352 = .ok (.invokevirtual 24, 3) := by decide +kernel
theorem dL_law_355 : decode cL_law 355 = .ok (.if_icmp .eq 1453, 3) := by decide +kernel
theorem dL_law_360 : decode cL_law 360 = .ok (.aload_n 1, 1) := by decide +kernel
theorem dL_law_361 : decode cL_law 361 = .ok (.aload_n 0, 1) := by decide +kernel
theorem dL_law_362 : decode cL_law 362 = .ok (.iload_n 3, 1) := by decide +kernel
theorem dL_law_363 : decode cL_law 363 = .ok (.iconst 1, 1) := by decide +kernel
theorem dL_law_364 : decode cL_law 364 = .ok (.iadd, 1) := by decide +kernel
theorem dL_law_365 : decode cL_law 365 = .ok (.iaload, 1) := by decide +kernel
theorem dL_law_366 : decode cL_law 366 = .ok (.aload_n 0, 1) := by decide +kernel
theorem dL_law_367 : decode cL_law 367 = .ok (.iload_n 3, 1) := by decide +kernel
theorem dL_law_368 : decode cL_law 368 = .ok (.iconst 2, 1) := by decide +kernel
theorem dL_law_369 : decode cL_law 369 = .ok (.iadd, 1) := by decide +kernel
theorem dL_law_370 : decode cL_law 370 = .ok (.iaload, 1) := by decide +kernel
theorem dL_law_371 : decode cL_law 371 = .ok (.aload_n 0, 1) := by decide +kernel
theorem dL_law_372 : decode cL_law 372 = .ok (.iload_n 3, 1) := by decide +kernel
theorem dL_law_373 : decode cL_law 373 = .ok (.iconst 3, 1) := by decide +kernel
theorem dL_law_374 : decode cL_law 374 = .ok (.iadd, 1) := by decide +kernel
theorem dL_law_375 : decode cL_law 375 = .ok (.iaload, 1) := by decide +kernel
theorem dL_law_376 : decode cL_law 376 = .ok (.aload_n 0, 1) := by decide +kernel
theorem dL_law_377 : decode cL_law 377 = .ok (.iload_n 3, 1) := by decide +kernel
theorem dL_law_378 : decode cL_law 378 = .ok (.iconst 4, 1) := by decide +kernel
theorem dL_law_379 : decode cL_law 379 = .ok (.iadd, 1) := by decide +kernel
theorem dL_law_380 : decode cL_law 380 = .ok (.iaload, 1) := by decide +kernel
theorem dL_law_381 : decode cL_law 381 = .ok (.aload_n 0, 1) := by decide +kernel
theorem dL_law_382 : decode cL_law 382 = .ok (.iload_n 3, 1) := by decide +kernel
theorem dL_law_383 : decode cL_law 383 = .ok (.iconst 5, 1) := by decide +kernel
theorem dL_law_384 : decode cL_law 384 = .ok (.iadd, 1) := by decide +kernel
theorem dL_law_385 : decode cL_law 385 = .ok (.iaload, 1) := by decide +kernel
theorem dL_law_386 : decode cL_law 386 = .ok (.invokevirtual 25, 3) := by decide +kernel
theorem dL_law_389 : decode cL_law 389 = .ok (.aload_n 2, 1) := by decide +kernel
theorem dL_law_390 : decode cL_law 390 = .ok (.aload_n 0, 1) := by decide +kernel
theorem dL_law_391 : decode cL_law 391 = .ok (.iload_n 3, 1) := by decide +kernel
theorem dL_law_392 : decode cL_law 392 = .ok (.iconst 1, 1) := by decide +kernel
theorem dL_law_393 : decode cL_law 393 = .ok (.iadd, 1) := by decide +kernel
theorem dL_law_394 : decode cL_law 394 = .ok (.iaload, 1) := by decide +kernel
theorem dL_law_395 : decode cL_law 395 = .ok (.aload_n 0, 1) := by decide +kernel
theorem dL_law_396 : decode cL_law 396 = .ok (.iload_n 3, 1) := by decide +kernel
theorem dL_law_397 : decode cL_law 397 = .ok (.iconst 2, 1) := by decide +kernel
theorem dL_law_398 : decode cL_law 398 = .ok (.iadd, 1) := by decide +kernel
theorem dL_law_399 : decode cL_law 399 = .ok (.iaload, 1) := by decide +kernel
theorem dL_law_400 : decode cL_law 400 = .ok (.aload_n 0, 1) := by decide +kernel
theorem dL_law_401 : decode cL_law 401 = .ok (.iload_n 3, 1) := by decide +kernel
theorem dL_law_402 : decode cL_law 402 = .ok (.iconst 3, 1) := by decide +kernel
theorem dL_law_403 : decode cL_law 403 = .ok (.iadd, 1) := by decide +kernel
theorem dL_law_404 : decode cL_law 404 = .ok (.iaload, 1) := by decide +kernel
theorem dL_law_405 : decode cL_law 405 = .ok (.aload_n 0, 1) := by decide +kernel
theorem dL_law_406 : decode cL_law 406 = .ok (.iload_n 3, 1) := by decide +kernel
theorem dL_law_407 : decode cL_law 407 = .ok (.iconst 4, 1) := by decide +kernel
theorem dL_law_408 : decode cL_law 408 = .ok (.iadd, 1) := by decide +kernel
theorem dL_law_409 : decode cL_law 409 = .ok (.iaload, 1) := by decide +kernel
theorem dL_law_410 : decode cL_law 410 = .ok (.aload_n 0, 1) := by decide +kernel
theorem dL_law_411 : decode cL_law 411 = .ok (.iload_n 3, 1) := by decide +kernel
theorem dL_law_412 : decode cL_law 412 = .ok (.iconst 5, 1) := by decide +kernel
theorem dL_law_413 : decode cL_law 413 = .ok (.iadd, 1) := by decide +kernel
theorem dL_law_414 : decode cL_law 414 = .ok (.iaload, 1) := by decide +kernel
theorem dL_law_415 : decode cL_law 415 = .ok (.invokevirtual 29, 3) := by decide +kernel
theorem dL_law_418 : decode cL_law 418 = .ok (.if_icmp .eq 1390, 3) := by decide +kernel
theorem dL_law_423 : decode cL_law 423 = .ok (.aload_n 1, 1) := by decide +kernel
theorem dL_law_424 : decode cL_law 424 = .ok (.aload_n 0, 1) := by decide +kernel
theorem dL_law_425 : decode cL_law 425 = .ok (.iload_n 3, 1) := by decide +kernel
theorem dL_law_426 : decode cL_law 426 = .ok (.iconst 1, 1) := by decide +kernel
theorem dL_law_427 : decode cL_law 427 = .ok (.iadd, 1) := by decide +kernel
theorem dL_law_428 : decode cL_law 428 = .ok (.iaload, 1) := by decide +kernel
theorem dL_law_429 : decode cL_law 429 = .ok (.aload_n 0, 1) := by decide +kernel
theorem dL_law_430 : decode cL_law 430 = .ok (.iload_n 3, 1) := by decide +kernel
theorem dL_law_431 : decode cL_law 431 = .ok (.iconst 2, 1) := by decide +kernel
theorem dL_law_432 : decode cL_law 432 = .ok (.iadd, 1) := by decide +kernel
theorem dL_law_433 : decode cL_law 433 = .ok (.iaload, 1) := by decide +kernel
theorem dL_law_434 : decode cL_law 434 = .ok (.invokevirtual 30, 3) := by decide +kernel
theorem dL_law_437 : decode cL_law 437 = .ok (.aload_n 2, 1) := by decide +kernel
theorem dL_law_438 : decode cL_law 438 = .ok (.aload_n 0, 1) := by decide +kernel
theorem dL_law_439 : decode cL_law 439 = .ok (.iload_n 3, 1) := by decide +kernel
theorem dL_law_440 : decode cL_law 440 = .ok (.iconst 1, 1) := by decide +kernel
theorem dL_law_441 : decode cL_law 441 = .ok (.iadd, 1) := by decide +kernel
theorem dL_law_442 : decode cL_law 442 = .ok (.iaload, 1) := by decide +kernel
theorem dL_law_443 : decode cL_law 443 = .ok (.aload_n 0, 1) := by decide +kernel
theorem dL_law_444 : decode cL_law 444 = .ok (.iload_n 3, 1) := by decide +kernel
theorem dL_law_445 : decode cL_law 445 = .ok (.iconst 2, 1) := by decide +kernel
theorem dL_law_446 : decode cL_law 446 = .ok (.iadd, 1) := by decide +kernel
theorem dL_law_447 : decode cL_law 447 = .ok (.iaload, 1) := by decide +kernel
theorem dL_law_448 : decode cL_law 448 = .ok (.invokevirtual 34, 3) := by decide +kernel
theorem dL_law_451 : decode cL_law 451 = .ok (.lcmp, 1) := by decide +kernel
theorem dL_law_452 : decode cL_law 452 = .ok (.ifCond .eq 1356, 3) := by decide +kernel
theorem dL_law_457 : decode cL_law 457 = .ok (.aload_n 1, 1) := by decide +kernel
theorem dL_law_458 : decode cL_law 458 = .ok (.aload_n 0, 1) := by decide +kernel
theorem dL_law_459 : decode cL_law 459 = .ok (.iload_n 3, 1) := by decide +kernel
theorem dL_law_460 : decode cL_law 460 = .ok (.iconst 1, 1) := by decide +kernel
theorem dL_law_461 : decode cL_law 461 = .ok (.iadd, 1) := by decide +kernel
theorem dL_law_462 : decode cL_law 462 = .ok (.iaload, 1) := by decide +kernel
theorem dL_law_463 : decode cL_law 463 = .ok (.invokevirtual 35, 3) := by decide +kernel
theorem dL_law_466 : decode cL_law 466 = .ok (.aload_n 2, 1) := by decide +kernel
theorem dL_law_467 : decode cL_law 467 = .ok (.aload_n 0, 1) := by decide +kernel
theorem dL_law_468 : decode cL_law 468 = .ok (.iload_n 3, 1) := by decide +kernel
theorem dL_law_469 : decode cL_law 469 = .ok (.iconst 1, 1) := by decide +kernel
theorem dL_law_470 : decode cL_law 470 = .ok (.iadd, 1) := by decide +kernel
theorem dL_law_471 : decode cL_law 471 = .ok (.iaload, 1) := by decide +kernel
theorem dL_law_472 : decode cL_law 472 = .ok (.invokevirtual 39, 3) := by decide +kernel
theorem dL_law_475 : decode cL_law 475 = .ok (.if_icmp .eq 1333, 3) := by decide +kernel
theorem dL_law_480 : decode cL_law 480 = .ok (.aload_n 1, 1) := by decide +kernel
theorem dL_law_481 : decode cL_law 481 = .ok (.aload_n 0, 1) := by decide +kernel
theorem dL_law_482 : decode cL_law 482 = .ok (.iload_n 3, 1) := by decide +kernel
theorem dL_law_483 : decode cL_law 483 = .ok (.iconst 1, 1) := by decide +kernel
theorem dL_law_484 : decode cL_law 484 = .ok (.iadd, 1) := by decide +kernel
theorem dL_law_485 : decode cL_law 485 = .ok (.iaload, 1) := by decide +kernel
theorem dL_law_486 : decode cL_law 486 = .ok (.aload_n 0, 1) := by decide +kernel
theorem dL_law_487 : decode cL_law 487 = .ok (.iload_n 3, 1) := by decide +kernel
theorem dL_law_488 : decode cL_law 488 = .ok (.iconst 2, 1) := by decide +kernel
theorem dL_law_489 : decode cL_law 489 = .ok (.iadd, 1) := by decide +kernel
theorem dL_law_490 : decode cL_law 490 = .ok (.iaload, 1) := by decide +kernel
theorem dL_law_491 : decode cL_law 491 = .ok (.aload_n 0, 1) := by decide +kernel
theorem dL_law_492 : decode cL_law 492 = .ok (.iload_n 3, 1) := by decide +kernel
theorem dL_law_493 : decode cL_law 493 = .ok (.iconst 3, 1) := by decide +kernel
theorem dL_law_494 : decode cL_law 494 = .ok (.iadd, 1) := by decide +kernel
theorem dL_law_495 : decode cL_law 495 = .ok (.iaload, 1) := by decide +kernel
theorem dL_law_496 : decode cL_law 496 = .ok (.invokevirtual 40, 3) := by decide +kernel
theorem dL_law_499 : decode cL_law 499 = .ok (.aload_n 2, 1) := by decide +kernel
theorem dL_law_500 : decode cL_law 500 = .ok (.aload_n 0, 1) := by decide +kernel
theorem dL_law_501 : decode cL_law 501 = .ok (.iload_n 3, 1) := by decide +kernel
theorem dL_law_502 : decode cL_law 502 = .ok (.iconst 1, 1) := by decide +kernel
theorem dL_law_503 : decode cL_law 503 = .ok (.iadd, 1) := by decide +kernel
theorem dL_law_504 : decode cL_law 504 = .ok (.iaload, 1) := by decide +kernel
theorem dL_law_505 : decode cL_law 505 = .ok (.aload_n 0, 1) := by decide +kernel
theorem dL_law_506 : decode cL_law 506 = .ok (.iload_n 3, 1) := by decide +kernel
theorem dL_law_507 : decode cL_law 507 = .ok (.iconst 2, 1) := by decide +kernel
theorem dL_law_508 : decode cL_law 508 = .ok (.iadd, 1) := by decide +kernel
theorem dL_law_509 : decode cL_law 509 = .ok (.iaload, 1) := by decide +kernel
theorem dL_law_510 : decode cL_law 510 = .ok (.aload_n 0, 1) := by decide +kernel
theorem dL_law_511 : decode cL_law 511 = .ok (.iload_n 3, 1) := by decide +kernel
theorem dL_law_512 : decode cL_law 512 = .ok (.iconst 3, 1) := by decide +kernel
theorem dL_law_513 : decode cL_law 513 = .ok (.iadd, 1) := by decide +kernel
theorem dL_law_514 : decode cL_law 514 = .ok (.iaload, 1) := by decide +kernel
theorem dL_law_515 : decode cL_law 515 = .ok (.invokevirtual 43, 3) := by decide +kernel
theorem dL_law_518 : decode cL_law 518 = .ok (.if_icmp .eq 1290, 3) := by decide +kernel
theorem dL_law_523 : decode cL_law 523 = .ok (.aload_n 1, 1) := by decide +kernel
theorem dL_law_524 : decode cL_law 524 = .ok (.aload_n 0, 1) := by decide +kernel
theorem dL_law_525 : decode cL_law 525 = .ok (.iload_n 3, 1) := by decide +kernel
theorem dL_law_526 : decode cL_law 526 = .ok (.iconst 1, 1) := by decide +kernel
theorem dL_law_527 : decode cL_law 527 = .ok (.iadd, 1) := by decide +kernel
theorem dL_law_528 : decode cL_law 528 = .ok (.iaload, 1) := by decide +kernel
theorem dL_law_529 : decode cL_law 529 = .ok (.aload_n 0, 1) := by decide +kernel
theorem dL_law_530 : decode cL_law 530 = .ok (.iload_n 3, 1) := by decide +kernel
theorem dL_law_531 : decode cL_law 531 = .ok (.iconst 2, 1) := by decide +kernel
theorem dL_law_532 : decode cL_law 532 = .ok (.iadd, 1) := by decide +kernel
theorem dL_law_533 : decode cL_law 533 = .ok (.iaload, 1) := by decide +kernel
theorem dL_law_534 : decode cL_law 534 = .ok (.invokevirtual 44, 3) := by decide +kernel
theorem dL_law_537 : decode cL_law 537 = .ok (.aload_n 2, 1) := by decide +kernel
theorem dL_law_538 : decode cL_law 538 = .ok (.aload_n 0, 1) := by decide +kernel
theorem dL_law_539 : decode cL_law 539 = .ok (.iload_n 3, 1) := by decide +kernel
theorem dL_law_540 : decode cL_law 540 = .ok (.iconst 1, 1) := by decide +kernel
theorem dL_law_541 : decode cL_law 541 = .ok (.iadd, 1) := by decide +kernel
theorem dL_law_542 : decode cL_law 542 = .ok (.iaload, 1) := by decide +kernel
theorem dL_law_543 : decode cL_law 543 = .ok (.aload_n 0, 1) := by decide +kernel
theorem dL_law_544 : decode cL_law 544 = .ok (.iload_n 3, 1) := by decide +kernel
theorem dL_law_545 : decode cL_law 545 = .ok (.iconst 2, 1) := by decide +kernel
theorem dL_law_546 : decode cL_law 546 = .ok (.iadd, 1) := by decide +kernel
theorem dL_law_547 : decode cL_law 547 = .ok (.iaload, 1) := by decide +kernel
theorem dL_law_548 : decode cL_law 548 = .ok (.invokevirtual 48, 3) := by decide +kernel
theorem dL_law_551 : decode cL_law 551 = .ok (.if_icmp .eq 1257, 3) := by decide +kernel
theorem dL_law_556 : decode cL_law 556 = .ok (.aload_n 1, 1) := by decide +kernel
theorem dL_law_557 : decode cL_law 557 = .ok (.aload_n 0, 1) := by decide +kernel
theorem dL_law_558 : decode cL_law 558 = .ok (.iload_n 3, 1) := by decide +kernel
theorem dL_law_559 : decode cL_law 559 = .ok (.iconst 1, 1) := by decide +kernel
theorem dL_law_560 : decode cL_law 560 = .ok (.iadd, 1) := by decide +kernel
theorem dL_law_561 : decode cL_law 561 = .ok (.iaload, 1) := by decide +kernel
theorem dL_law_562 : decode cL_law 562 = .ok (.aload_n 0, 1) := by decide +kernel
theorem dL_law_563 : decode cL_law 563 = .ok (.iload_n 3, 1) := by decide +kernel
theorem dL_law_564 : decode cL_law 564 = .ok (.iconst 2, 1) := by decide +kernel
theorem dL_law_565 : decode cL_law 565 = .ok (.iadd, 1) := by decide +kernel
theorem dL_law_566 : decode cL_law 566 = .ok (.iaload, 1) := by decide +kernel
theorem dL_law_567 : decode cL_law 567 = .ok (.invokevirtual 49, 3) := by decide +kernel
theorem dL_law_570 : decode cL_law 570 = .ok (.aload_n 2, 1) := by decide +kernel
theorem dL_law_571 : decode cL_law 571 = .ok (.aload_n 0, 1) := by decide +kernel
theorem dL_law_572 : decode cL_law 572 = .ok (.iload_n 3, 1) := by decide +kernel
theorem dL_law_573 : decode cL_law 573 = .ok (.iconst 1, 1) := by decide +kernel
theorem dL_law_574 : decode cL_law 574 = .ok (.iadd, 1) := by decide +kernel
theorem dL_law_575 : decode cL_law 575 = .ok (.iaload, 1) := by decide +kernel
theorem dL_law_576 : decode cL_law 576 = .ok (.aload_n 0, 1) := by decide +kernel
theorem dL_law_577 : decode cL_law 577 = .ok (.iload_n 3, 1) := by decide +kernel
theorem dL_law_578 : decode cL_law 578 = .ok (.iconst 2, 1) := by decide +kernel
theorem dL_law_579 : decode cL_law 579 = .ok (.iadd, 1) := by decide +kernel
theorem dL_law_580 : decode cL_law 580 = .ok (.iaload, 1) := by decide +kernel
theorem dL_law_581 : decode cL_law 581 = .ok (.invokevirtual 52, 3) := by decide +kernel
theorem dL_law_584 : decode cL_law 584 = .ok (.if_icmp .eq 1224, 3) := by decide +kernel
theorem dL_law_589 : decode cL_law 589 = .ok (.aload_n 1, 1) := by decide +kernel
theorem dL_law_590 : decode cL_law 590 = .ok (.aload_n 0, 1) := by decide +kernel
theorem dL_law_591 : decode cL_law 591 = .ok (.iload_n 3, 1) := by decide +kernel
theorem dL_law_592 : decode cL_law 592 = .ok (.iconst 1, 1) := by decide +kernel
theorem dL_law_593 : decode cL_law 593 = .ok (.iadd, 1) := by decide +kernel
theorem dL_law_594 : decode cL_law 594 = .ok (.iaload, 1) := by decide +kernel
theorem dL_law_595 : decode cL_law 595 = .ok (.aload_n 0, 1) := by decide +kernel
theorem dL_law_596 : decode cL_law 596 = .ok (.iload_n 3, 1) := by decide +kernel
theorem dL_law_597 : decode cL_law 597 = .ok (.iconst 2, 1) := by decide +kernel
theorem dL_law_598 : decode cL_law 598 = .ok (.iadd, 1) := by decide +kernel
theorem dL_law_599 : decode cL_law 599 = .ok (.iaload, 1) := by decide +kernel
theorem dL_law_600 : decode cL_law 600 = .ok (.aload_n 0, 1) := by decide +kernel
theorem dL_law_601 : decode cL_law 601 = .ok (.iload_n 3, 1) := by decide +kernel
theorem dL_law_602 : decode cL_law 602 = .ok (.iconst 3, 1) := by decide +kernel
theorem dL_law_603 : decode cL_law 603 = .ok (.iadd, 1) := by decide +kernel
theorem dL_law_604 : decode cL_law 604 = .ok (.iaload, 1) := by decide +kernel
theorem dL_law_605 : decode cL_law 605 = .ok (.aload_n 0, 1) := by decide +kernel
theorem dL_law_606 : decode cL_law 606 = .ok (.iload_n 3, 1) := by decide +kernel
theorem dL_law_607 : decode cL_law 607 = .ok (.iconst 4, 1) := by decide +kernel
theorem dL_law_608 : decode cL_law 608 = .ok (.iadd, 1) := by decide +kernel
theorem dL_law_609 : decode cL_law 609 = .ok (.iaload, 1) := by decide +kernel
theorem dL_law_610 : decode cL_law 610 = .ok (.invokevirtual 53, 3) := by decide +kernel
theorem dL_law_613 : decode cL_law 613 = .ok (.aload_n 2, 1) := by decide +kernel
theorem dL_law_614 : decode cL_law 614 = .ok (.aload_n 0, 1) := by decide +kernel
theorem dL_law_615 : decode cL_law 615 = .ok (.iload_n 3, 1) := by decide +kernel
theorem dL_law_616 : decode cL_law 616 = .ok (.iconst 1, 1) := by decide +kernel
theorem dL_law_617 : decode cL_law 617 = .ok (.iadd, 1) := by decide +kernel
theorem dL_law_618 : decode cL_law 618 = .ok (.iaload, 1) := by decide +kernel
theorem dL_law_619 : decode cL_law 619 = .ok (.aload_n 0, 1) := by decide +kernel
theorem dL_law_620 : decode cL_law 620 = .ok (.iload_n 3, 1) := by decide +kernel
theorem dL_law_621 : decode cL_law 621 = .ok (.iconst 2, 1) := by decide +kernel
theorem dL_law_622 : decode cL_law 622 = .ok (.iadd, 1) := by decide +kernel
theorem dL_law_623 : decode cL_law 623 = .ok (.iaload, 1) := by decide +kernel
theorem dL_law_624 : decode cL_law 624 = .ok (.aload_n 0, 1) := by decide +kernel
theorem dL_law_625 : decode cL_law 625 = .ok (.iload_n 3, 1) := by decide +kernel
theorem dL_law_626 : decode cL_law 626 = .ok (.iconst 3, 1) := by decide +kernel
theorem dL_law_627 : decode cL_law 627 = .ok (.iadd, 1) := by decide +kernel
theorem dL_law_628 : decode cL_law 628 = .ok (.iaload, 1) := by decide +kernel
theorem dL_law_629 : decode cL_law 629 = .ok (.aload_n 0, 1) := by decide +kernel
theorem dL_law_630 : decode cL_law 630 = .ok (.iload_n 3, 1) := by decide +kernel
theorem dL_law_631 : decode cL_law 631 = .ok (.iconst 4, 1) := by decide +kernel
theorem dL_law_632 : decode cL_law 632 = .ok (.iadd, 1) := by decide +kernel
theorem dL_law_633 : decode cL_law 633 = .ok (.iaload, 1) := by decide +kernel
theorem dL_law_634 : decode cL_law 634 = .ok (.invokevirtual 57, 3) := by decide +kernel
theorem dL_law_637 : decode cL_law 637 = .ok (.if_icmp .eq 1171, 3) := by decide +kernel
theorem dL_law_642 : decode cL_law 642 = .ok (.aload_n 1, 1) := by decide +kernel
theorem dL_law_643 : decode cL_law 643 = .ok (.aload_n 0, 1) := by decide +kernel
theorem dL_law_644 : decode cL_law 644 = .ok (.iload_n 3, 1) := by decide +kernel
theorem dL_law_645 : decode cL_law 645 = .ok (.iconst 1, 1) := by decide +kernel
theorem dL_law_646 : decode cL_law 646 = .ok (.iadd, 1) := by decide +kernel
theorem dL_law_647 : decode cL_law 647 = .ok (.iaload, 1) := by decide +kernel
theorem dL_law_648 : decode cL_law 648 = .ok (.aload_n 0, 1) := by decide +kernel
theorem dL_law_649 : decode cL_law 649 = .ok (.iload_n 3, 1) := by decide +kernel
theorem dL_law_650 : decode cL_law 650 = .ok (.iconst 2, 1) := by decide +kernel
theorem dL_law_651 : decode cL_law 651 = .ok (.iadd, 1) := by decide +kernel
theorem dL_law_652 : decode cL_law 652 = .ok (.iaload, 1) := by decide +kernel
theorem dL_law_653 : decode cL_law 653 = .ok (.invokevirtual 58, 3) := by decide +kernel
theorem dL_law_656 : decode cL_law 656 = .ok (.aload_n 2, 1) := by decide +kernel
theorem dL_law_657 : decode cL_law 657 = .ok (.aload_n 0, 1) := by decide +kernel
theorem dL_law_658 : decode cL_law 658 = .ok (.iload_n 3, 1) := by decide +kernel
theorem dL_law_659 : decode cL_law 659 = .ok (.iconst 1, 1) := by decide +kernel
theorem dL_law_660 : decode cL_law 660 = .ok (.iadd, 1) := by decide +kernel
theorem dL_law_661 : decode cL_law 661 = .ok (.iaload, 1) := by decide +kernel
theorem dL_law_662 : decode cL_law 662 = .ok (.aload_n 0, 1) := by decide +kernel
theorem dL_law_663 : decode cL_law 663 = .ok (.iload_n 3, 1) := by decide +kernel
theorem dL_law_664 : decode cL_law 664 = .ok (.iconst 2, 1) := by decide +kernel
theorem dL_law_665 : decode cL_law 665 = .ok (.iadd, 1) := by decide +kernel
theorem dL_law_666 : decode cL_law 666 = .ok (.iaload, 1) := by decide +kernel
theorem dL_law_667 : decode cL_law 667 = .ok (.invokevirtual 61, 3) := by decide +kernel
theorem dL_law_670 : decode cL_law 670 = .ok (.if_icmp .eq 1138, 3) := by decide +kernel
theorem dL_law_675 : decode cL_law 675 = .ok (.aload_n 1, 1) := by decide +kernel
theorem dL_law_676 : decode cL_law 676 = .ok (.aload_n 0, 1) := by decide +kernel
theorem dL_law_677 : decode cL_law 677 = .ok (.iload_n 3, 1) := by decide +kernel
theorem dL_law_678 : decode cL_law 678 = .ok (.iconst 1, 1) := by decide +kernel
theorem dL_law_679 : decode cL_law 679 = .ok (.iadd, 1) := by decide +kernel
theorem dL_law_680 : decode cL_law 680 = .ok (.iaload, 1) := by decide +kernel
theorem dL_law_681 : decode cL_law 681 = .ok (.aload_n 0, 1) := by decide +kernel
theorem dL_law_682 : decode cL_law 682 = .ok (.iload_n 3, 1) := by decide +kernel
theorem dL_law_683 : decode cL_law 683 = .ok (.iconst 2, 1) := by decide +kernel
theorem dL_law_684 : decode cL_law 684 = .ok (.iadd, 1) := by decide +kernel
theorem dL_law_685 : decode cL_law 685 = .ok (.iaload, 1) := by decide +kernel
theorem dL_law_686 : decode cL_law 686 = .ok (.invokevirtual 62, 3) := by decide +kernel
theorem dL_law_689 : decode cL_law 689 = .ok (.aload_n 2, 1) := by decide +kernel
theorem dL_law_690 : decode cL_law 690 = .ok (.aload_n 0, 1) := by decide +kernel
theorem dL_law_691 : decode cL_law 691 = .ok (.iload_n 3, 1) := by decide +kernel
theorem dL_law_692 : decode cL_law 692 = .ok (.iconst 1, 1) := by decide +kernel
theorem dL_law_693 : decode cL_law 693 = .ok (.iadd, 1) := by decide +kernel
theorem dL_law_694 : decode cL_law 694 = .ok (.iaload, 1) := by decide +kernel
theorem dL_law_695 : decode cL_law 695 = .ok (.aload_n 0, 1) := by decide +kernel
theorem dL_law_696 : decode cL_law 696 = .ok (.iload_n 3, 1) := by decide +kernel
theorem dL_law_697 : decode cL_law 697 = .ok (.iconst 2, 1) := by decide +kernel
theorem dL_law_698 : decode cL_law 698 = .ok (.iadd, 1) := by decide +kernel
theorem dL_law_699 : decode cL_law 699 = .ok (.iaload, 1) := by decide +kernel
theorem dL_law_700 : decode cL_law 700 = .ok (.invokevirtual 65, 3) := by decide +kernel
theorem dL_law_703 : decode cL_law 703 = .ok (.if_icmp .eq 1105, 3) := by decide +kernel
theorem dL_law_708 : decode cL_law 708 = .ok (.aload_n 1, 1) := by decide +kernel
theorem dL_law_709 : decode cL_law 709 = .ok (.invokevirtual 66, 3) := by decide +kernel
theorem dL_law_712 : decode cL_law 712 = .ok (.aload_n 2, 1) := by decide +kernel
theorem dL_law_713 : decode cL_law 713 = .ok (.invokevirtual 70, 3) := by decide +kernel
theorem dL_law_716 : decode cL_law 716 = .ok (.if_icmp .eq 1092, 3) := by decide +kernel
theorem dL_law_721 : decode cL_law 721 = .ok (.aload_n 1, 1) := by decide +kernel
theorem dL_law_722 : decode cL_law 722 = .ok (.invokevirtual 71, 3) := by decide +kernel
theorem dL_law_725 : decode cL_law 725 = .ok (.aload_n 2, 1) := by decide +kernel
theorem dL_law_726 : decode cL_law 726 = .ok (.invokevirtual 74, 3) := by decide +kernel
theorem dL_law_729 : decode cL_law 729 = .ok (.if_icmp .eq 1079, 3) := by decide +kernel
theorem dL_law_1808 : decode cL_law 1808 = .ok (.iinc 3 6, 3) := by decide +kernel
theorem dL_law_1811 : decode cL_law 1811 = .ok (.goto (-1793), 3) := by decide +kernel
theorem dL_law_1814 : decode cL_law 1814 = .ok (.iconst 1, 1) := by decide +kernel
theorem dL_law_1815 : decode cL_law 1815 = .ok (.ireturn, 1) := by decide +kernel
theorem law_end {p : Program} {l : Launch} {e : Env} {s : State} {m : MethodId} {below : List Frame} {meth : Method} {c : Code} {b : Nat} {A : Nat → Prop} {H : Heap} {locs : List Loc} {ls : Array Slot} {cells slots : Nat} (hx : p.tables.exec = Jvm.exec) (hb : c.code = code) (hr : meth.sig.returnType = ret) (hlocks : meth.locks = false) (hAn : ∀ q : Nat, A q → s.heap.size ≤ q) (hS : va_S A s.heap H locs) (hc : cells ≤ 600000) (hs : slots ≤ 7302250) : W p l e room_1 s m #[Value.ref b] below meth c H locs cells slots (lw_Z below #[Value.ref b] s) (F0 m 1814 ls []) := by
  refine lv_iconst (v := 1) hx hb dL_law_1814 (by decide) ?_
  refine va_forget (fun q hq => hAn _ (hS.2.2 q hq)) ?_
  refine W.widen (k := 600000) (n := 7302250) hc hs ?_
  exact lw_ret hx hb hr hlocks dL_law_1815

set_option maxHeartbeats 4000000 in
theorem law_tail {p : Program} {l : Launch} {e : Env} {s : State} {m : MethodId} {below : List Frame} {meth : Method} {c : Code} {b : Nat} {xs : Nat → Int32} {A : Nat → Prop} {H : Heap} {locs : List Loc} {ls : Array Slot} {cells slots : Nat} (hx : p.tables.exec = Jvm.exec) (hb : c.code = code) (hr : meth.sig.returnType = ret) (hml : c.maxLocals = 4) (hX : va_X b 6 xs s s.heap) (hbl : b < s.heap.size) (hlocks : meth.locks = false) (hAn : ∀ q : Nat, A q → s.heap.size ≤ q) (hbA : ¬ A b) (hS : va_S A s.heap H locs) (hl : lv_has ls 4 [(3, .int 0), (0, .ref b)]) (hc : cells ≤ 600000) (hs : slots ≤ 7302250) : W p l e room_1 s m #[Value.ref b] below meth c H locs cells slots (lw_Z below #[Value.ref b] s) (F0 m 1808 ls []) := by
  refine lv_iinc (v := 6) (lv' := [(3, .int 6), (0, .ref b)]) hx hb dL_law_1808 hl (k := 0) rfl (by decide) (by decide) rfl (fun ls hl => ?_)
  refine lv_goto (tgt := 18) hx hb dL_law_1811 (by decide) ?_
  refine lv_iload_n hx hb dL_law_18 rfl (lv_at hl 0 rfl) ?_
  refine lv_aload_n hx hb dL_law_19 rfl (lv_at hl 1 rfl) ?_
  refine va_slen hx hb hX hbl hbA hS dL_law_20 ?_
  refine lv_bipush (v := 6) hx hb dL_law_21 (by decide) ?_
  refine lv_isub hx hb dL_law_23 ?_
  refine lv_seti (v := 0) (by decide) ?_
  refine lv_icmp_gt (tgt := 1814) hx hb dL_law_24 (by decide) (fun _ => ?_) (fun h9 => absurd (by decide) h9)
  exact law_end hx hb hr hlocks hAn hS hc hs

set_option maxHeartbeats 4000000 in
set_option maxRecDepth 100000 in
theorem law_0 {p : Program} {l : Launch} {e : Env} {s : State} {m : MethodId} {below : List Frame} {meth : Method} {c : Code} {b : Nat} {xs : Nat → Int32} {A : Nat → Prop} {G : va_G} {cy : Nat → ClassId} {H : Heap} {locs : List Loc} {ls : Array Slot} (qx : Nat) (qt : Nat) (qk : Nat) (qp : Nat) (qs : Nat) (qa : Nat) (qr : Nat) (qsh : Nat) (qss : Nat) (qsa : Nat) (qse : Nat) (fH : Nat → Int32) (qm : Nat) (qms : Nat) (qmo : Nat) (qmz : Nat) (qmR : Nat) (qmv : Nat) (qmk : Nat) (qmb : Nat) (qmt : Nat) (qmr : Nat) (qmB : Nat) (qmO : Nat) (qmK : Nat) (qm_three : Nat) (qm_unread : Nat) (qm_tryRow : Nat) (qm_bestRow : Nat) (qm_steps : Nat) (rR : Nat → Nat) (hx : p.tables.exec = Jvm.exec) (hb : c.code = code) (hr : meth.sig.returnType = ret) (hml : c.maxLocals = 4) (hown : s.vm.findClass RL = some m.cls) (hts : ∀ w ∈ BIG, w.before #[Value.ref b] s = true) (hX : va_X b 6 xs s s.heap) (hbl : b < s.heap.size) (hlocks : meth.locks = false) (hN : KN G cy s) (hA : ∀ q : Nat, s.heap.size ≤ q → A q) (hAn : ∀ q : Nat, A q → s.heap.size ≤ q) (hbA : ¬ A b) (hP : va_P G CL [(qx, .inr (4, [.ref qt, .ref qk, .ref qp, .ref qs, .ref qa, .ref qr, .int 0, .int 0, .int 0])), (qr, .inl (cy 0, 5, .inl (fun _ => 0))), (qs, .inr (1, [.ref qsh, .ref qss, .ref qsa, .ref qse])), (qsh, .inl (cy 0, 8, .inl fH)), (qss, .inl (cy 0, 8, .inl (fun _ => 0))), (qse, .inl (cy 1, 320, .inr (.inl (fun _ => 0)))), (qm, .inr (5, [.ref qms, .ref qmo, .ref qmz, .ref qmR, .ref qmv, .ref qmk, .ref qmb, .ref qmt, .int 0, .ref qmr, .int 0, .ref qmB, .int 0, .ref qmO, .ref qmK, .int 0, .int 0, .int 1, .null, .null, .int 0, .int 0, .int 0, .long 0, .int 0, .ref qm_three, .int 0, .int 0, .int 0, .null, .ref qm_unread, .ref qm_tryRow, .ref qm_bestRow, .ref qm_steps, .int 0])), (qms, .inl (cy 0, 8, .inl (fun _ => 0))), (qmo, .inl (cy 0, 8, .inl (fun _ => 0))), (qmz, .inl (cy 0, 8, .inl (fun _ => 0))), (qmr, .inl (cy 0, 8, .inl (fun _ => 0))), (qmR, .inl (cy 4, 8, .inr (.inr (.inr (.inr (fun i => if i < 8 then some (rR i) else none)))))), (rR 0, .inl (cy 1, 40, .inr (.inl (fun _ => 0)))), (rR 1, .inl (cy 1, 40, .inr (.inl (fun _ => 0)))), (rR 2, .inl (cy 1, 40, .inr (.inl (fun _ => 0)))), (rR 3, .inl (cy 1, 40, .inr (.inl (fun _ => 0)))), (rR 4, .inl (cy 1, 40, .inr (.inl (fun _ => 0)))), (rR 5, .inl (cy 1, 40, .inr (.inl (fun _ => 0)))), (rR 6, .inl (cy 1, 40, .inr (.inl (fun _ => 0)))), (rR 7, .inl (cy 1, 40, .inr (.inl (fun _ => 0))))] H) (hD : va_D A [(qx, .inr (4, [.ref qt, .ref qk, .ref qp, .ref qs, .ref qa, .ref qr, .int 0, .int 0, .int 0])), (qr, .inl (cy 0, 5, .inl (fun _ => 0))), (qs, .inr (1, [.ref qsh, .ref qss, .ref qsa, .ref qse])), (qsh, .inl (cy 0, 8, .inl fH)), (qss, .inl (cy 0, 8, .inl (fun _ => 0))), (qse, .inl (cy 1, 320, .inr (.inl (fun _ => 0)))), (qm, .inr (5, [.ref qms, .ref qmo, .ref qmz, .ref qmR, .ref qmv, .ref qmk, .ref qmb, .ref qmt, .int 0, .ref qmr, .int 0, .ref qmB, .int 0, .ref qmO, .ref qmK, .int 0, .int 0, .int 1, .null, .null, .int 0, .int 0, .int 0, .long 0, .int 0, .ref qm_three, .int 0, .int 0, .int 0, .null, .ref qm_unread, .ref qm_tryRow, .ref qm_bestRow, .ref qm_steps, .int 0])), (qms, .inl (cy 0, 8, .inl (fun _ => 0))), (qmo, .inl (cy 0, 8, .inl (fun _ => 0))), (qmz, .inl (cy 0, 8, .inl (fun _ => 0))), (qmr, .inl (cy 0, 8, .inl (fun _ => 0))), (qmR, .inl (cy 4, 8, .inr (.inr (.inr (.inr (fun i => if i < 8 then some (rR i) else none)))))), (rR 0, .inl (cy 1, 40, .inr (.inl (fun _ => 0)))), (rR 1, .inl (cy 1, 40, .inr (.inl (fun _ => 0)))), (rR 2, .inl (cy 1, 40, .inr (.inl (fun _ => 0)))), (rR 3, .inl (cy 1, 40, .inr (.inl (fun _ => 0)))), (rR 4, .inl (cy 1, 40, .inr (.inl (fun _ => 0)))), (rR 5, .inl (cy 1, 40, .inr (.inl (fun _ => 0)))), (rR 6, .inl (cy 1, 40, .inr (.inl (fun _ => 0)))), (rR 7, .inl (cy 1, 40, .inr (.inl (fun _ => 0))))]) (hS : va_S A s.heap H locs) (hl : lv_has ls 4 [(3, .int 0), (2, .ref qm), (1, .ref qx), (0, .ref b)]) (hH : ∀ i, i < 8 → fH i = -1) : W p l e room_1 s m #[Value.ref b] below meth c H locs 105 2176 (lw_Z below #[Value.ref b] s) (F0 m 244 ls []) := by
  have hK := hN.1
  refine lv_aload_n hx hb dL_law_244 rfl (lv_at hl 2 rfl) ?_
  refine lv_aload_n hx hb dL_law_245 rfl (lv_at hl 3 rfl) ?_
  refine lv_iload_n hx hb dL_law_246 rfl (lv_at hl 0 rfl) ?_
  refine lv_iconst (v := 1) hx hb dL_law_247 (by decide) ?_
  refine lv_iadd hx hb dL_law_248 ?_
  refine lv_seti (v := 1) (by decide) ?_
  refine va_sld hx hb hX hbl hbA hS (in_c rfl) dL_law_249 ?_
  refine lv_seti (v := xs 1) (congrArg xs (by decide)) ?_
  refine lv_aload_n hx hb dL_law_250 rfl (lv_at hl 3 rfl) ?_
  refine lv_iload_n hx hb dL_law_251 rfl (lv_at hl 0 rfl) ?_
  refine lv_iconst (v := 2) hx hb dL_law_252 (by decide) ?_
  refine lv_iadd hx hb dL_law_253 ?_
  refine lv_seti (v := 2) (by decide) ?_
  refine va_sld hx hb hX hbl hbA hS (in_c rfl) dL_law_254 ?_
  refine lv_seti (v := xs 2) (congrArg xs (by decide)) ?_
  refine lv_aload_n hx hb dL_law_255 rfl (lv_at hl 3 rfl) ?_
  refine lv_iload_n hx hb dL_law_256 rfl (lv_at hl 0 rfl) ?_
  refine lv_iconst (v := 3) hx hb dL_law_257 (by decide) ?_
  refine lv_iadd hx hb dL_law_258 ?_
  refine lv_seti (v := 3) (by decide) ?_
  refine va_sld hx hb hX hbl hbA hS (in_c rfl) dL_law_259 ?_
  refine lv_seti (v := xs 3) (congrArg xs (by decide)) ?_
  refine kWi (wr := [(qm, .inr (5, [.ref qms, .ref qmo, .ref qmz, .ref qmR, .ref qmv, .ref qmk, .ref qmb, .ref qmt, .int 0, .ref qmr, .int 0, .ref qmB, .int 0, .ref qmO, .ref qmK, .int 0, .int 0, .int 1, .null, .null, .int 0, .int 0, .int 0, .long 0, .int 0, .ref qm_three, .int 0, .int 0, .int 0, .null, .ref qm_unread, .ref qm_tryRow, .ref qm_bestRow, .ref qm_steps, .int 0])), (qms, .inl (cy 0, 8, .inl (fun _ => 0))), (qmo, .inl (cy 0, 8, .inl (fun _ => 0))), (qmz, .inl (cy 0, 8, .inl (fun _ => 0))), (qmr, .inl (cy 0, 8, .inl (fun _ => 0))), (qmR, .inl (cy 4, 8, .inr (.inr (.inr (.inr (fun i => if i < 8 then some (rR i) else none)))))), (rR 0, .inl (cy 1, 40, .inr (.inl (fun _ => 0)))), (rR 1, .inl (cy 1, 40, .inr (.inl (fun _ => 0)))), (rR 2, .inl (cy 1, 40, .inr (.inl (fun _ => 0)))), (rR 3, .inl (cy 1, 40, .inr (.inl (fun _ => 0)))), (rR 4, .inl (cy 1, 40, .inr (.inl (fun _ => 0)))), (rR 5, .inl (cy 1, 40, .inr (.inl (fun _ => 0)))), (rR 6, .inl (cy 1, 40, .inr (.inl (fun _ => 0)))), (rR 7, .inl (cy 1, 40, .inr (.inl (fun _ => 0))))]) (rV (As := [.int (xs 1), .int (xs 2), .int (xs 3)]) (rest := []) (b := qx) ⟨hx, hb, hml, hown, hts⟩ (p_X5_row l G cy (H).size qx qt qk qp qs qa qr qsh qss qsa qse fH (xs 1) (xs 2) (xs 3) hH) L_L_13 (preWV (q := (RX5, TX5, 9)) hN hP hD [0, 1, 2, 3, 4, 5] rfl (by decide) 0 4 rfl rfl) rfl ⟨Nat.le_of_ble_eq_true rfl, Nat.le_of_ble_eq_true rfl⟩ hl.1 (Nat.le_of_ble_eq_true rfl) dL_law_260 ⟨Nat.le_of_ble_eq_true rfl, Nat.le_of_ble_eq_true rfl⟩) hP hD hS hA [0, 1, 2, 3, 4, 5] [6, 7, 8, 9, 10, 11, 12, 13, 14, 15, 16, 17, 18, 19] rfl rfl (by decide) (by decide) (fun r_1 u_3 H locs h_2 hP hD hS => ?_)
  obtain ⟨rfl, h_2⟩ := h_2
  have hP : va_P G CL [(qm, .inr (5, [.ref qms, .ref qmo, .ref qmz, .ref qmR, .ref qmv, .ref qmk, .ref qmb, .ref qmt, .int 0, .ref qmr, .int 0, .ref qmB, .int 0, .ref qmO, .ref qmK, .int 0, .int 0, .int 1, .null, .null, .int 0, .int 0, .int 0, .long 0, .int 0, .ref qm_three, .int 0, .int 0, .int 0, .null, .ref qm_unread, .ref qm_tryRow, .ref qm_bestRow, .ref qm_steps, .int 0])), (qms, .inl (cy 0, 8, .inl (fun _ => 0))), (qmo, .inl (cy 0, 8, .inl (fun _ => 0))), (qmz, .inl (cy 0, 8, .inl (fun _ => 0))), (qmr, .inl (cy 0, 8, .inl (fun _ => 0))), (qmR, .inl (cy 4, 8, .inr (.inr (.inr (.inr (fun i => if i < 8 then some (rR i) else none)))))), (rR 0, .inl (cy 1, 40, .inr (.inl (fun _ => 0)))), (rR 1, .inl (cy 1, 40, .inr (.inl (fun _ => 0)))), (rR 2, .inl (cy 1, 40, .inr (.inl (fun _ => 0)))), (rR 3, .inl (cy 1, 40, .inr (.inl (fun _ => 0)))), (rR 4, .inl (cy 1, 40, .inr (.inl (fun _ => 0)))), (rR 5, .inl (cy 1, 40, .inr (.inl (fun _ => 0)))), (rR 6, .inl (cy 1, 40, .inr (.inl (fun _ => 0)))), (rR 7, .inl (cy 1, 40, .inr (.inl (fun _ => 0))))] H := hP
  have hD : va_D A [(qm, .inr (5, [.ref qms, .ref qmo, .ref qmz, .ref qmR, .ref qmv, .ref qmk, .ref qmb, .ref qmt, .int 0, .ref qmr, .int 0, .ref qmB, .int 0, .ref qmO, .ref qmK, .int 0, .int 0, .int 1, .null, .null, .int 0, .int 0, .int 0, .long 0, .int 0, .ref qm_three, .int 0, .int 0, .int 0, .null, .ref qm_unread, .ref qm_tryRow, .ref qm_bestRow, .ref qm_steps, .int 0])), (qms, .inl (cy 0, 8, .inl (fun _ => 0))), (qmo, .inl (cy 0, 8, .inl (fun _ => 0))), (qmz, .inl (cy 0, 8, .inl (fun _ => 0))), (qmr, .inl (cy 0, 8, .inl (fun _ => 0))), (qmR, .inl (cy 4, 8, .inr (.inr (.inr (.inr (fun i => if i < 8 then some (rR i) else none)))))), (rR 0, .inl (cy 1, 40, .inr (.inl (fun _ => 0)))), (rR 1, .inl (cy 1, 40, .inr (.inl (fun _ => 0)))), (rR 2, .inl (cy 1, 40, .inr (.inl (fun _ => 0)))), (rR 3, .inl (cy 1, 40, .inr (.inl (fun _ => 0)))), (rR 4, .inl (cy 1, 40, .inr (.inl (fun _ => 0)))), (rR 5, .inl (cy 1, 40, .inr (.inl (fun _ => 0)))), (rR 6, .inl (cy 1, 40, .inr (.inl (fun _ => 0)))), (rR 7, .inl (cy 1, 40, .inr (.inl (fun _ => 0))))] := hD
  subst h_2
  refine lv_aload_n hx hb dL_law_263 rfl (lv_at hl 1 rfl) ?_
  refine lv_aload_n hx hb dL_law_264 rfl (lv_at hl 3 rfl) ?_
  refine lv_iload_n hx hb dL_law_265 rfl (lv_at hl 0 rfl) ?_
  refine lv_iconst (v := 1) hx hb dL_law_266 (by decide) ?_
  refine lv_iadd hx hb dL_law_267 ?_
  refine lv_seti (v := 1) (by decide) ?_
  refine va_sld hx hb hX hbl hbA hS (in_c rfl) dL_law_268 ?_
  refine lv_seti (v := xs 1) (congrArg xs (by decide)) ?_
  refine lv_aload_n hx hb dL_law_269 rfl (lv_at hl 3 rfl) ?_
  refine lv_iload_n hx hb dL_law_270 rfl (lv_at hl 0 rfl) ?_
  refine lv_iconst (v := 2) hx hb dL_law_271 (by decide) ?_
  refine lv_iadd hx hb dL_law_272 ?_
  refine lv_seti (v := 2) (by decide) ?_
  refine va_sld hx hb hX hbl hbA hS (in_c rfl) dL_law_273 ?_
  refine lv_seti (v := xs 2) (congrArg xs (by decide)) ?_
  refine lv_aload_n hx hb dL_law_274 rfl (lv_at hl 3 rfl) ?_
  refine lv_iload_n hx hb dL_law_275 rfl (lv_at hl 0 rfl) ?_
  refine lv_iconst (v := 3) hx hb dL_law_276 (by decide) ?_
  refine lv_iadd hx hb dL_law_277 ?_
  refine lv_seti (v := 3) (by decide) ?_
  refine va_sld hx hb hX hbl hbA hS (in_c rfl) dL_law_278 ?_
  refine lv_seti (v := xs 3) (congrArg xs (by decide)) ?_
  refine kWi (wr := []) (rV (As := [.int (xs 1), .int (xs 2), .int (xs 3)]) (rest := [.int (sp_row (xs 1) (xs 2) (xs 3))]) (b := qm) ⟨hx, hb, hml, hown, hts⟩ (p_X6_row l G cy (H).size qm qms qmo qmz qmR qmv qmk qmb qmt qmr qmB qmO qmK qm_three qm_unread qm_tryRow qm_bestRow qm_steps rR (xs 1) (xs 2) (xs 3)) L_L_17 (preWV (q := (RX6, TX6, 35)) hN hP hD [0, 1, 2, 3, 4, 5, 6, 7, 8, 9, 10, 11, 12, 13] rfl (by decide) 0 5 rfl rfl) rfl ⟨Nat.le_of_ble_eq_true rfl, Nat.le_of_ble_eq_true rfl⟩ hl.1 (Nat.le_of_ble_eq_true rfl) dL_law_279 ⟨Nat.le_of_ble_eq_true rfl, Nat.le_of_ble_eq_true rfl⟩) hP hD hS hA [0, 1, 2, 3, 4, 5, 6, 7, 8, 9, 10, 11, 12, 13] [] rfl rfl (by decide) (by decide) (fun r_4 u_6 H locs h_5 hP hD hS => ?_)
  obtain ⟨rfl, h_5⟩ := h_5
  have hP : va_P G CL [] H := hP
  have hD : va_D A [] := hD
  subst h_5
  refine lv_icmp_eq (tgt := 1808) hx hb dL_law_282 (by decide) (fun _ => ?_) (fun h9 => absurd rfl h9)
  exact law_tail hx hb hr hml hX hbl hlocks hAn hbA hS (lv_sub hl [0, 3] rfl) (Nat.le_of_ble_eq_true rfl) (Nat.le_of_ble_eq_true rfl)
set_option maxHeartbeats 4000000 in
set_option maxRecDepth 100000 in
theorem law_1 {p : Program} {l : Launch} {e : Env} {s : State} {m : MethodId} {below : List Frame} {meth : Method} {c : Code} {b : Nat} {xs : Nat → Int32} {A : Nat → Prop} {G : va_G} {cy : Nat → ClassId} {H : Heap} {locs : List Loc} {ls : Array Slot} (qx : Nat) (qt : Nat) (qk : Nat) (qp : Nat) (qs : Nat) (qa : Nat) (qr : Nat) (qsh : Nat) (qss : Nat) (qsa : Nat) (qse : Nat) (fH : Nat → Int32) (qm : Nat) (qms : Nat) (qmo : Nat) (qmz : Nat) (qmR : Nat) (qmv : Nat) (qmk : Nat) (qmb : Nat) (qmt : Nat) (qmr : Nat) (qmB : Nat) (qmO : Nat) (qmK : Nat) (qm_three : Nat) (qm_unread : Nat) (qm_tryRow : Nat) (qm_bestRow : Nat) (qm_steps : Nat) (hx : p.tables.exec = Jvm.exec) (hb : c.code = code) (hr : meth.sig.returnType = ret) (hml : c.maxLocals = 4) (hown : s.vm.findClass RL = some m.cls) (hts : ∀ w ∈ BIG, w.before #[Value.ref b] s = true) (hX : va_X b 6 xs s s.heap) (hbl : b < s.heap.size) (hlocks : meth.locks = false) (hN : KN G cy s) (hA : ∀ q : Nat, s.heap.size ≤ q → A q) (hAn : ∀ q : Nat, A q → s.heap.size ≤ q) (hbA : ¬ A b) (hP : va_P G CL [(qx, .inr (4, [.ref qt, .ref qk, .ref qp, .ref qs, .ref qa, .ref qr, .int 0, .int 0, .int 0])), (qr, .inl (cy 0, 5, .inl (fun _ => 0))), (qs, .inr (1, [.ref qsh, .ref qss, .ref qsa, .ref qse])), (qsh, .inl (cy 0, 8, .inl fH)), (qm, .inr (5, [.ref qms, .ref qmo, .ref qmz, .ref qmR, .ref qmv, .ref qmk, .ref qmb, .ref qmt, .int 0, .ref qmr, .int 0, .ref qmB, .int 0, .ref qmO, .ref qmK, .int 0, .int 0, .int 1, .null, .null, .int 0, .int 0, .int 0, .long 0, .int 0, .ref qm_three, .int 0, .int 0, .int 0, .null, .ref qm_unread, .ref qm_tryRow, .ref qm_bestRow, .ref qm_steps, .int 0])), (qms, .inl (cy 0, 8, .inl (fun _ => 0))), (qmr, .inl (cy 0, 8, .inl (fun _ => 0)))] H) (hD : va_D A [(qx, .inr (4, [.ref qt, .ref qk, .ref qp, .ref qs, .ref qa, .ref qr, .int 0, .int 0, .int 0])), (qr, .inl (cy 0, 5, .inl (fun _ => 0))), (qs, .inr (1, [.ref qsh, .ref qss, .ref qsa, .ref qse])), (qsh, .inl (cy 0, 8, .inl fH)), (qm, .inr (5, [.ref qms, .ref qmo, .ref qmz, .ref qmR, .ref qmv, .ref qmk, .ref qmb, .ref qmt, .int 0, .ref qmr, .int 0, .ref qmB, .int 0, .ref qmO, .ref qmK, .int 0, .int 0, .int 1, .null, .null, .int 0, .int 0, .int 0, .long 0, .int 0, .ref qm_three, .int 0, .int 0, .int 0, .null, .ref qm_unread, .ref qm_tryRow, .ref qm_bestRow, .ref qm_steps, .int 0])), (qms, .inl (cy 0, 8, .inl (fun _ => 0))), (qmr, .inl (cy 0, 8, .inl (fun _ => 0)))]) (hS : va_S A s.heap H locs) (hl : lv_has ls 4 [(3, .int 0), (2, .ref qm), (1, .ref qx), (0, .ref b)]) (hH : ∀ i, i < 8 → fH i = -1) : W p l e room_1 s m #[Value.ref b] below meth c H locs 105 2176 (lw_Z below #[Value.ref b] s) (F0 m 287 ls []) := by
  have hK := hN.1
  refine lv_aload_n hx hb dL_law_287 rfl (lv_at hl 2 rfl) ?_
  refine lv_aload_n hx hb dL_law_288 rfl (lv_at hl 3 rfl) ?_
  refine lv_iload_n hx hb dL_law_289 rfl (lv_at hl 0 rfl) ?_
  refine lv_iconst (v := 1) hx hb dL_law_290 (by decide) ?_
  refine lv_iadd hx hb dL_law_291 ?_
  refine lv_seti (v := 1) (by decide) ?_
  refine va_sld hx hb hX hbl hbA hS (in_c rfl) dL_law_292 ?_
  refine lv_seti (v := xs 1) (congrArg xs (by decide)) ?_
  refine lv_aload_n hx hb dL_law_293 rfl (lv_at hl 3 rfl) ?_
  refine lv_iload_n hx hb dL_law_294 rfl (lv_at hl 0 rfl) ?_
  refine lv_iconst (v := 2) hx hb dL_law_295 (by decide) ?_
  refine lv_iadd hx hb dL_law_296 ?_
  refine lv_seti (v := 2) (by decide) ?_
  refine va_sld hx hb hX hbl hbA hS (in_c rfl) dL_law_297 ?_
  refine lv_seti (v := xs 2) (congrArg xs (by decide)) ?_
  refine lv_aload_n hx hb dL_law_298 rfl (lv_at hl 3 rfl) ?_
  refine lv_iload_n hx hb dL_law_299 rfl (lv_at hl 0 rfl) ?_
  refine lv_iconst (v := 3) hx hb dL_law_300 (by decide) ?_
  refine lv_iadd hx hb dL_law_301 ?_
  refine lv_seti (v := 3) (by decide) ?_
  refine va_sld hx hb hX hbl hbA hS (in_c rfl) dL_law_302 ?_
  refine lv_seti (v := xs 3) (congrArg xs (by decide)) ?_
  refine lv_i2l (v := (xs 3).toInt64) hx hb dL_law_303 rfl ?_
  refine lv_bipush (v := 32) hx hb dL_law_304 (by decide) ?_
  refine lv_lshl (v := ((xs 3).toInt64) <<< ((32 : Int32).toInt64 &&& 63)) hx hb dL_law_306 rfl ?_
  refine lv_aload_n hx hb dL_law_307 rfl (lv_at hl 3 rfl) ?_
  refine lv_iload_n hx hb dL_law_308 rfl (lv_at hl 0 rfl) ?_
  refine lv_iconst (v := 4) hx hb dL_law_309 (by decide) ?_
  refine lv_iadd hx hb dL_law_310 ?_
  refine lv_seti (v := 4) (by decide) ?_
  refine va_sld hx hb hX hbl hbA hS (in_c rfl) dL_law_311 ?_
  refine lv_seti (v := xs 4) (congrArg xs (by decide)) ?_
  refine lv_i2l (v := (xs 4).toInt64) hx hb dL_law_312 rfl ?_
  refine lv_ldc2 hx hb hown (hts _ m_t1392) dL_law_313 ?_
  refine lv_land hx hb dL_law_316 ?_
  refine lv_lor hx hb dL_law_317 ?_
  refine kWi (wr := [(qm, .inr (5, [.ref qms, .ref qmo, .ref qmz, .ref qmR, .ref qmv, .ref qmk, .ref qmb, .ref qmt, .int 0, .ref qmr, .int 0, .ref qmB, .int 0, .ref qmO, .ref qmK, .int 0, .int 0, .int 1, .null, .null, .int 0, .int 0, .int 0, .long 0, .int 0, .ref qm_three, .int 0, .int 0, .int 0, .null, .ref qm_unread, .ref qm_tryRow, .ref qm_bestRow, .ref qm_steps, .int 0])), (qms, .inl (cy 0, 8, .inl (fun _ => 0))), (qmr, .inl (cy 0, 8, .inl (fun _ => 0)))]) (rV (As := [.int (xs 1), .int (xs 2), .long ((((xs 3).toInt64) <<< ((32 : Int32).toInt64 &&& 63)) ||| (((xs 4).toInt64) &&& 4294967295))]) (rest := []) (b := qx) ⟨hx, hb, hml, hown, hts⟩ (p_X5_set l G cy (H).size qx qt qk qp qs qa qr qsh qss qsa qse fH (xs 1) (xs 2) ((((xs 3).toInt64) <<< ((32 : Int32).toInt64 &&& 63)) ||| (((xs 4).toInt64) &&& 4294967295)) hH) L_L_20 (preWV (q := (RX5, TX5, 9)) hN hP hD [0, 1, 2, 3] rfl (by decide) 0 4 rfl rfl) rfl ⟨Nat.le_of_ble_eq_true rfl, Nat.le_of_ble_eq_true rfl⟩ hl.1 (Nat.le_of_ble_eq_true rfl) dL_law_318 ⟨Nat.le_of_ble_eq_true rfl, Nat.le_of_ble_eq_true rfl⟩) hP hD hS hA [0, 1, 2, 3] [4, 5, 6] rfl rfl (by decide) (by decide) (fun r_1 u_3 H locs h_2 hP hD hS => ?_)
  obtain ⟨rfl, h_2⟩ := h_2
  have hP : va_P G CL [(qm, .inr (5, [.ref qms, .ref qmo, .ref qmz, .ref qmR, .ref qmv, .ref qmk, .ref qmb, .ref qmt, .int 0, .ref qmr, .int 0, .ref qmB, .int 0, .ref qmO, .ref qmK, .int 0, .int 0, .int 1, .null, .null, .int 0, .int 0, .int 0, .long 0, .int 0, .ref qm_three, .int 0, .int 0, .int 0, .null, .ref qm_unread, .ref qm_tryRow, .ref qm_bestRow, .ref qm_steps, .int 0])), (qms, .inl (cy 0, 8, .inl (fun _ => 0))), (qmr, .inl (cy 0, 8, .inl (fun _ => 0)))] H := hP
  have hD : va_D A [(qm, .inr (5, [.ref qms, .ref qmo, .ref qmz, .ref qmR, .ref qmv, .ref qmk, .ref qmb, .ref qmt, .int 0, .ref qmr, .int 0, .ref qmB, .int 0, .ref qmO, .ref qmK, .int 0, .int 0, .int 1, .null, .null, .int 0, .int 0, .int 0, .long 0, .int 0, .ref qm_three, .int 0, .int 0, .int 0, .null, .ref qm_unread, .ref qm_tryRow, .ref qm_bestRow, .ref qm_steps, .int 0])), (qms, .inl (cy 0, 8, .inl (fun _ => 0))), (qmr, .inl (cy 0, 8, .inl (fun _ => 0)))] := hD
  subst h_2
  refine lv_aload_n hx hb dL_law_321 rfl (lv_at hl 1 rfl) ?_
  refine lv_aload_n hx hb dL_law_322 rfl (lv_at hl 3 rfl) ?_
  refine lv_iload_n hx hb dL_law_323 rfl (lv_at hl 0 rfl) ?_
  refine lv_iconst (v := 1) hx hb dL_law_324 (by decide) ?_
  refine lv_iadd hx hb dL_law_325 ?_
  refine lv_seti (v := 1) (by decide) ?_
  refine va_sld hx hb hX hbl hbA hS (in_c rfl) dL_law_326 ?_
  refine lv_seti (v := xs 1) (congrArg xs (by decide)) ?_
  refine lv_aload_n hx hb dL_law_327 rfl (lv_at hl 3 rfl) ?_
  refine lv_iload_n hx hb dL_law_328 rfl (lv_at hl 0 rfl) ?_
  refine lv_iconst (v := 2) hx hb dL_law_329 (by decide) ?_
  refine lv_iadd hx hb dL_law_330 ?_
  refine lv_seti (v := 2) (by decide) ?_
  refine va_sld hx hb hX hbl hbA hS (in_c rfl) dL_law_331 ?_
  refine lv_seti (v := xs 2) (congrArg xs (by decide)) ?_
  refine lv_aload_n hx hb dL_law_332 rfl (lv_at hl 3 rfl) ?_
  refine lv_iload_n hx hb dL_law_333 rfl (lv_at hl 0 rfl) ?_
  refine lv_iconst (v := 3) hx hb dL_law_334 (by decide) ?_
  refine lv_iadd hx hb dL_law_335 ?_
  refine lv_seti (v := 3) (by decide) ?_
  refine va_sld hx hb hX hbl hbA hS (in_c rfl) dL_law_336 ?_
  refine lv_seti (v := xs 3) (congrArg xs (by decide)) ?_
  refine lv_i2l (v := (xs 3).toInt64) hx hb dL_law_337 rfl ?_
  refine lv_bipush (v := 32) hx hb dL_law_338 (by decide) ?_
  refine lv_lshl (v := ((xs 3).toInt64) <<< ((32 : Int32).toInt64 &&& 63)) hx hb dL_law_340 rfl ?_
  refine lv_aload_n hx hb dL_law_341 rfl (lv_at hl 3 rfl) ?_
  refine lv_iload_n hx hb dL_law_342 rfl (lv_at hl 0 rfl) ?_
  refine lv_iconst (v := 4) hx hb dL_law_343 (by decide) ?_
  refine lv_iadd hx hb dL_law_344 ?_
  refine lv_seti (v := 4) (by decide) ?_
  refine va_sld hx hb hX hbl hbA hS (in_c rfl) dL_law_345 ?_
  refine lv_seti (v := xs 4) (congrArg xs (by decide)) ?_
  refine lv_i2l (v := (xs 4).toInt64) hx hb dL_law_346 rfl ?_
  refine lv_ldc2 hx hb hown (hts _ m_t1392) dL_law_347 ?_
  refine lv_land hx hb dL_law_350 ?_
  refine lv_lor hx hb dL_law_351 ?_
  refine kWi (wr := []) (rV (As := [.int (xs 1), .int (xs 2), .long ((((xs 3).toInt64) <<< ((32 : Int32).toInt64 &&& 63)) ||| (((xs 4).toInt64) &&& 4294967295))]) (rest := [.int (sp_shelf (xs 1))]) (b := qm) ⟨hx, hb, hml, hown, hts⟩ (p_X6_set l G cy (H).size qm qms qmo qmz qmR qmv qmk qmb qmt qmr qmB qmO qmK qm_three qm_unread qm_tryRow qm_bestRow qm_steps (xs 1) (xs 2) ((((xs 3).toInt64) <<< ((32 : Int32).toInt64 &&& 63)) ||| (((xs 4).toInt64) &&& 4294967295))) L_L_24 (preWV (q := (RX6, TX6, 35)) hN hP hD [0, 1, 2] rfl (by decide) 0 5 rfl rfl) rfl ⟨Nat.le_of_ble_eq_true rfl, Nat.le_of_ble_eq_true rfl⟩ hl.1 (Nat.le_of_ble_eq_true rfl) dL_law_352 ⟨Nat.le_of_ble_eq_true rfl, Nat.le_of_ble_eq_true rfl⟩) hP hD hS hA [0, 1, 2] [] rfl rfl (by decide) (by decide) (fun r_4 u_6 H locs h_5 hP hD hS => ?_)
  obtain ⟨rfl, h_5⟩ := h_5
  have hP : va_P G CL [] H := hP
  have hD : va_D A [] := hD
  subst h_5
  refine lv_icmp_eq (tgt := 1808) hx hb dL_law_355 (by decide) (fun _ => ?_) (fun h9 => absurd rfl h9)
  exact law_tail hx hb hr hml hX hbl hlocks hAn hbA hS (lv_sub hl [0, 3] rfl) (Nat.le_of_ble_eq_true rfl) (Nat.le_of_ble_eq_true rfl)
set_option maxHeartbeats 4000000 in
set_option maxRecDepth 100000 in
theorem law_2 {p : Program} {l : Launch} {e : Env} {s : State} {m : MethodId} {below : List Frame} {meth : Method} {c : Code} {b : Nat} {xs : Nat → Int32} {A : Nat → Prop} {G : va_G} {cy : Nat → ClassId} {H : Heap} {locs : List Loc} {ls : Array Slot} (qx : Nat) (qt : Nat) (qk : Nat) (qp : Nat) (qs : Nat) (qa : Nat) (qr : Nat) (qsh : Nat) (qss : Nat) (qsa : Nat) (qse : Nat) (fH : Nat → Int32) (qm : Nat) (qms : Nat) (qmo : Nat) (qmz : Nat) (qmR : Nat) (qmv : Nat) (qmk : Nat) (qmb : Nat) (qmt : Nat) (qmr : Nat) (qmB : Nat) (qmO : Nat) (qmK : Nat) (qm_three : Nat) (qm_unread : Nat) (qm_tryRow : Nat) (qm_bestRow : Nat) (qm_steps : Nat) (hx : p.tables.exec = Jvm.exec) (hb : c.code = code) (hr : meth.sig.returnType = ret) (hml : c.maxLocals = 4) (hown : s.vm.findClass RL = some m.cls) (hts : ∀ w ∈ BIG, w.before #[Value.ref b] s = true) (hX : va_X b 6 xs s s.heap) (hbl : b < s.heap.size) (hlocks : meth.locks = false) (hN : KN G cy s) (hA : ∀ q : Nat, s.heap.size ≤ q → A q) (hAn : ∀ q : Nat, A q → s.heap.size ≤ q) (hbA : ¬ A b) (hP : va_P G CL [(qx, .inr (4, [.ref qt, .ref qk, .ref qp, .ref qs, .ref qa, .ref qr, .int 0, .int 0, .int 0])), (qr, .inl (cy 0, 5, .inl (fun _ => 0))), (qs, .inr (1, [.ref qsh, .ref qss, .ref qsa, .ref qse])), (qsh, .inl (cy 0, 8, .inl fH)), (qm, .inr (5, [.ref qms, .ref qmo, .ref qmz, .ref qmR, .ref qmv, .ref qmk, .ref qmb, .ref qmt, .int 0, .ref qmr, .int 0, .ref qmB, .int 0, .ref qmO, .ref qmK, .int 0, .int 0, .int 1, .null, .null, .int 0, .int 0, .int 0, .long 0, .int 0, .ref qm_three, .int 0, .int 0, .int 0, .null, .ref qm_unread, .ref qm_tryRow, .ref qm_bestRow, .ref qm_steps, .int 0])), (qms, .inl (cy 0, 8, .inl (fun _ => 0))), (qmr, .inl (cy 0, 8, .inl (fun _ => 0)))] H) (hD : va_D A [(qx, .inr (4, [.ref qt, .ref qk, .ref qp, .ref qs, .ref qa, .ref qr, .int 0, .int 0, .int 0])), (qr, .inl (cy 0, 5, .inl (fun _ => 0))), (qs, .inr (1, [.ref qsh, .ref qss, .ref qsa, .ref qse])), (qsh, .inl (cy 0, 8, .inl fH)), (qm, .inr (5, [.ref qms, .ref qmo, .ref qmz, .ref qmR, .ref qmv, .ref qmk, .ref qmb, .ref qmt, .int 0, .ref qmr, .int 0, .ref qmB, .int 0, .ref qmO, .ref qmK, .int 0, .int 0, .int 1, .null, .null, .int 0, .int 0, .int 0, .long 0, .int 0, .ref qm_three, .int 0, .int 0, .int 0, .null, .ref qm_unread, .ref qm_tryRow, .ref qm_bestRow, .ref qm_steps, .int 0])), (qms, .inl (cy 0, 8, .inl (fun _ => 0))), (qmr, .inl (cy 0, 8, .inl (fun _ => 0)))]) (hS : va_S A s.heap H locs) (hl : lv_has ls 4 [(3, .int 0), (2, .ref qm), (1, .ref qx), (0, .ref b)]) (hH : ∀ i, i < 8 → fH i = -1) : W p l e room_1 s m #[Value.ref b] below meth c H locs 105 2176 (lw_Z below #[Value.ref b] s) (F0 m 360 ls []) := by
  have hK := hN.1
  refine lv_aload_n hx hb dL_law_360 rfl (lv_at hl 2 rfl) ?_
  refine lv_aload_n hx hb dL_law_361 rfl (lv_at hl 3 rfl) ?_
  refine lv_iload_n hx hb dL_law_362 rfl (lv_at hl 0 rfl) ?_
  refine lv_iconst (v := 1) hx hb dL_law_363 (by decide) ?_
  refine lv_iadd hx hb dL_law_364 ?_
  refine lv_seti (v := 1) (by decide) ?_
  refine va_sld hx hb hX hbl hbA hS (in_c rfl) dL_law_365 ?_
  refine lv_seti (v := xs 1) (congrArg xs (by decide)) ?_
  refine lv_aload_n hx hb dL_law_366 rfl (lv_at hl 3 rfl) ?_
  refine lv_iload_n hx hb dL_law_367 rfl (lv_at hl 0 rfl) ?_
  refine lv_iconst (v := 2) hx hb dL_law_368 (by decide) ?_
  refine lv_iadd hx hb dL_law_369 ?_
  refine lv_seti (v := 2) (by decide) ?_
  refine va_sld hx hb hX hbl hbA hS (in_c rfl) dL_law_370 ?_
  refine lv_seti (v := xs 2) (congrArg xs (by decide)) ?_
  refine lv_aload_n hx hb dL_law_371 rfl (lv_at hl 3 rfl) ?_
  refine lv_iload_n hx hb dL_law_372 rfl (lv_at hl 0 rfl) ?_
  refine lv_iconst (v := 3) hx hb dL_law_373 (by decide) ?_
  refine lv_iadd hx hb dL_law_374 ?_
  refine lv_seti (v := 3) (by decide) ?_
  refine va_sld hx hb hX hbl hbA hS (in_c rfl) dL_law_375 ?_
  refine lv_seti (v := xs 3) (congrArg xs (by decide)) ?_
  refine lv_aload_n hx hb dL_law_376 rfl (lv_at hl 3 rfl) ?_
  refine lv_iload_n hx hb dL_law_377 rfl (lv_at hl 0 rfl) ?_
  refine lv_iconst (v := 4) hx hb dL_law_378 (by decide) ?_
  refine lv_iadd hx hb dL_law_379 ?_
  refine lv_seti (v := 4) (by decide) ?_
  refine va_sld hx hb hX hbl hbA hS (in_c rfl) dL_law_380 ?_
  refine lv_seti (v := xs 4) (congrArg xs (by decide)) ?_
  refine lv_aload_n hx hb dL_law_381 rfl (lv_at hl 3 rfl) ?_
  refine lv_iload_n hx hb dL_law_382 rfl (lv_at hl 0 rfl) ?_
  refine lv_iconst (v := 5) hx hb dL_law_383 (by decide) ?_
  refine lv_iadd hx hb dL_law_384 ?_
  refine lv_seti (v := 5) (by decide) ?_
  refine va_sld hx hb hX hbl hbA hS (in_c rfl) dL_law_385 ?_
  refine lv_seti (v := xs 5) (congrArg xs (by decide)) ?_
  refine kWi (wr := [(qm, .inr (5, [.ref qms, .ref qmo, .ref qmz, .ref qmR, .ref qmv, .ref qmk, .ref qmb, .ref qmt, .int 0, .ref qmr, .int 0, .ref qmB, .int 0, .ref qmO, .ref qmK, .int 0, .int 0, .int 1, .null, .null, .int 0, .int 0, .int 0, .long 0, .int 0, .ref qm_three, .int 0, .int 0, .int 0, .null, .ref qm_unread, .ref qm_tryRow, .ref qm_bestRow, .ref qm_steps, .int 0])), (qms, .inl (cy 0, 8, .inl (fun _ => 0))), (qmr, .inl (cy 0, 8, .inl (fun _ => 0)))]) (rV (As := [.int (xs 1), .int (xs 2), .int (xs 3), .int (xs 4), .int (xs 5)]) (rest := []) (b := qx) ⟨hx, hb, hml, hown, hts⟩ (p_X5_copy l G cy (H).size qx qt qk qp qs qa qr qsh qss qsa qse fH (xs 1) (xs 2) (xs 3) (xs 4) (xs 5) hH) L_L_25 (preWV (q := (RX5, TX5, 9)) hN hP hD [0, 1, 2, 3] rfl (by decide) 0 4 rfl rfl) rfl ⟨Nat.le_of_ble_eq_true rfl, Nat.le_of_ble_eq_true rfl⟩ hl.1 (Nat.le_of_ble_eq_true rfl) dL_law_386 ⟨Nat.le_of_ble_eq_true rfl, Nat.le_of_ble_eq_true rfl⟩) hP hD hS hA [0, 1, 2, 3] [4, 5, 6] rfl rfl (by decide) (by decide) (fun r_1 u_3 H locs h_2 hP hD hS => ?_)
  obtain ⟨rfl, h_2⟩ := h_2
  have hP : va_P G CL [(qm, .inr (5, [.ref qms, .ref qmo, .ref qmz, .ref qmR, .ref qmv, .ref qmk, .ref qmb, .ref qmt, .int 0, .ref qmr, .int 0, .ref qmB, .int 0, .ref qmO, .ref qmK, .int 0, .int 0, .int 1, .null, .null, .int 0, .int 0, .int 0, .long 0, .int 0, .ref qm_three, .int 0, .int 0, .int 0, .null, .ref qm_unread, .ref qm_tryRow, .ref qm_bestRow, .ref qm_steps, .int 0])), (qms, .inl (cy 0, 8, .inl (fun _ => 0))), (qmr, .inl (cy 0, 8, .inl (fun _ => 0)))] H := hP
  have hD : va_D A [(qm, .inr (5, [.ref qms, .ref qmo, .ref qmz, .ref qmR, .ref qmv, .ref qmk, .ref qmb, .ref qmt, .int 0, .ref qmr, .int 0, .ref qmB, .int 0, .ref qmO, .ref qmK, .int 0, .int 0, .int 1, .null, .null, .int 0, .int 0, .int 0, .long 0, .int 0, .ref qm_three, .int 0, .int 0, .int 0, .null, .ref qm_unread, .ref qm_tryRow, .ref qm_bestRow, .ref qm_steps, .int 0])), (qms, .inl (cy 0, 8, .inl (fun _ => 0))), (qmr, .inl (cy 0, 8, .inl (fun _ => 0)))] := hD
  subst h_2
  refine lv_aload_n hx hb dL_law_389 rfl (lv_at hl 1 rfl) ?_
  refine lv_aload_n hx hb dL_law_390 rfl (lv_at hl 3 rfl) ?_
  refine lv_iload_n hx hb dL_law_391 rfl (lv_at hl 0 rfl) ?_
  refine lv_iconst (v := 1) hx hb dL_law_392 (by decide) ?_
  refine lv_iadd hx hb dL_law_393 ?_
  refine lv_seti (v := 1) (by decide) ?_
  refine va_sld hx hb hX hbl hbA hS (in_c rfl) dL_law_394 ?_
  refine lv_seti (v := xs 1) (congrArg xs (by decide)) ?_
  refine lv_aload_n hx hb dL_law_395 rfl (lv_at hl 3 rfl) ?_
  refine lv_iload_n hx hb dL_law_396 rfl (lv_at hl 0 rfl) ?_
  refine lv_iconst (v := 2) hx hb dL_law_397 (by decide) ?_
  refine lv_iadd hx hb dL_law_398 ?_
  refine lv_seti (v := 2) (by decide) ?_
  refine va_sld hx hb hX hbl hbA hS (in_c rfl) dL_law_399 ?_
  refine lv_seti (v := xs 2) (congrArg xs (by decide)) ?_
  refine lv_aload_n hx hb dL_law_400 rfl (lv_at hl 3 rfl) ?_
  refine lv_iload_n hx hb dL_law_401 rfl (lv_at hl 0 rfl) ?_
  refine lv_iconst (v := 3) hx hb dL_law_402 (by decide) ?_
  refine lv_iadd hx hb dL_law_403 ?_
  refine lv_seti (v := 3) (by decide) ?_
  refine va_sld hx hb hX hbl hbA hS (in_c rfl) dL_law_404 ?_
  refine lv_seti (v := xs 3) (congrArg xs (by decide)) ?_
  refine lv_aload_n hx hb dL_law_405 rfl (lv_at hl 3 rfl) ?_
  refine lv_iload_n hx hb dL_law_406 rfl (lv_at hl 0 rfl) ?_
  refine lv_iconst (v := 4) hx hb dL_law_407 (by decide) ?_
  refine lv_iadd hx hb dL_law_408 ?_
  refine lv_seti (v := 4) (by decide) ?_
  refine va_sld hx hb hX hbl hbA hS (in_c rfl) dL_law_409 ?_
  refine lv_seti (v := xs 4) (congrArg xs (by decide)) ?_
  refine lv_aload_n hx hb dL_law_410 rfl (lv_at hl 3 rfl) ?_
  refine lv_iload_n hx hb dL_law_411 rfl (lv_at hl 0 rfl) ?_
  refine lv_iconst (v := 5) hx hb dL_law_412 (by decide) ?_
  refine lv_iadd hx hb dL_law_413 ?_
  refine lv_seti (v := 5) (by decide) ?_
  refine va_sld hx hb hX hbl hbA hS (in_c rfl) dL_law_414 ?_
  refine lv_seti (v := xs 5) (congrArg xs (by decide)) ?_
  refine kWi (wr := []) (rV (As := [.int (xs 1), .int (xs 2), .int (xs 3), .int (xs 4), .int (xs 5)]) (rest := [.int (sp_copy (xs 1) (xs 2))]) (b := qm) ⟨hx, hb, hml, hown, hts⟩ (p_X6_copy l G cy (H).size qm qms qmo qmz qmR qmv qmk qmb qmt qmr qmB qmO qmK qm_three qm_unread qm_tryRow qm_bestRow qm_steps (xs 1) (xs 2) (xs 3) (xs 4) (xs 5)) L_L_29 (preWV (q := (RX6, TX6, 35)) hN hP hD [0, 1, 2] rfl (by decide) 0 5 rfl rfl) rfl ⟨Nat.le_of_ble_eq_true rfl, Nat.le_of_ble_eq_true rfl⟩ hl.1 (Nat.le_of_ble_eq_true rfl) dL_law_415 ⟨Nat.le_of_ble_eq_true rfl, Nat.le_of_ble_eq_true rfl⟩) hP hD hS hA [0, 1, 2] [] rfl rfl (by decide) (by decide) (fun r_4 u_6 H locs h_5 hP hD hS => ?_)
  obtain ⟨rfl, h_5⟩ := h_5
  have hP : va_P G CL [] H := hP
  have hD : va_D A [] := hD
  subst h_5
  refine lv_icmp_eq (tgt := 1808) hx hb dL_law_418 (by decide) (fun _ => ?_) (fun h9 => absurd rfl h9)
  exact law_tail hx hb hr hml hX hbl hlocks hAn hbA hS (lv_sub hl [0, 3] rfl) (Nat.le_of_ble_eq_true rfl) (Nat.le_of_ble_eq_true rfl)
set_option maxHeartbeats 4000000 in
set_option maxRecDepth 100000 in
theorem law_3 {p : Program} {l : Launch} {e : Env} {s : State} {m : MethodId} {below : List Frame} {meth : Method} {c : Code} {b : Nat} {xs : Nat → Int32} {A : Nat → Prop} {G : va_G} {cy : Nat → ClassId} {H : Heap} {locs : List Loc} {ls : Array Slot} (qx : Nat) (qt : Nat) (qk : Nat) (qp : Nat) (qs : Nat) (qa : Nat) (qr : Nat) (qsh : Nat) (qss : Nat) (qsa : Nat) (qse : Nat) (fH : Nat → Int32) (qm : Nat) (qms : Nat) (qmo : Nat) (qmz : Nat) (qmR : Nat) (qmv : Nat) (qmk : Nat) (qmb : Nat) (qmt : Nat) (qmr : Nat) (qmB : Nat) (qmO : Nat) (qmK : Nat) (qm_three : Nat) (qm_unread : Nat) (qm_tryRow : Nat) (qm_bestRow : Nat) (qm_steps : Nat) (hx : p.tables.exec = Jvm.exec) (hb : c.code = code) (hr : meth.sig.returnType = ret) (hml : c.maxLocals = 4) (hown : s.vm.findClass RL = some m.cls) (hts : ∀ w ∈ BIG, w.before #[Value.ref b] s = true) (hX : va_X b 6 xs s s.heap) (hbl : b < s.heap.size) (hlocks : meth.locks = false) (hN : KN G cy s) (hA : ∀ q : Nat, s.heap.size ≤ q → A q) (hAn : ∀ q : Nat, A q → s.heap.size ≤ q) (hbA : ¬ A b) (hP : va_P G CL [(qx, .inr (4, [.ref qt, .ref qk, .ref qp, .ref qs, .ref qa, .ref qr, .int 0, .int 0, .int 0])), (qs, .inr (1, [.ref qsh, .ref qss, .ref qsa, .ref qse])), (qsh, .inl (cy 0, 8, .inl fH)), (qm, .inr (5, [.ref qms, .ref qmo, .ref qmz, .ref qmR, .ref qmv, .ref qmk, .ref qmb, .ref qmt, .int 0, .ref qmr, .int 0, .ref qmB, .int 0, .ref qmO, .ref qmK, .int 0, .int 0, .int 1, .null, .null, .int 0, .int 0, .int 0, .long 0, .int 0, .ref qm_three, .int 0, .int 0, .int 0, .null, .ref qm_unread, .ref qm_tryRow, .ref qm_bestRow, .ref qm_steps, .int 0])), (qms, .inl (cy 0, 8, .inl (fun _ => 0)))] H) (hD : va_D A [(qx, .inr (4, [.ref qt, .ref qk, .ref qp, .ref qs, .ref qa, .ref qr, .int 0, .int 0, .int 0])), (qs, .inr (1, [.ref qsh, .ref qss, .ref qsa, .ref qse])), (qsh, .inl (cy 0, 8, .inl fH)), (qm, .inr (5, [.ref qms, .ref qmo, .ref qmz, .ref qmR, .ref qmv, .ref qmk, .ref qmb, .ref qmt, .int 0, .ref qmr, .int 0, .ref qmB, .int 0, .ref qmO, .ref qmK, .int 0, .int 0, .int 1, .null, .null, .int 0, .int 0, .int 0, .long 0, .int 0, .ref qm_three, .int 0, .int 0, .int 0, .null, .ref qm_unread, .ref qm_tryRow, .ref qm_bestRow, .ref qm_steps, .int 0])), (qms, .inl (cy 0, 8, .inl (fun _ => 0)))]) (hS : va_S A s.heap H locs) (hl : lv_has ls 4 [(3, .int 0), (2, .ref qm), (1, .ref qx), (0, .ref b)]) (hH : ∀ i, i < 8 → fH i = -1) : W p l e room_1 s m #[Value.ref b] below meth c H locs 105 2176 (lw_Z below #[Value.ref b] s) (F0 m 423 ls []) := by
  have hK := hN.1
  refine lv_aload_n hx hb dL_law_423 rfl (lv_at hl 2 rfl) ?_
  refine lv_aload_n hx hb dL_law_424 rfl (lv_at hl 3 rfl) ?_
  refine lv_iload_n hx hb dL_law_425 rfl (lv_at hl 0 rfl) ?_
  refine lv_iconst (v := 1) hx hb dL_law_426 (by decide) ?_
  refine lv_iadd hx hb dL_law_427 ?_
  refine lv_seti (v := 1) (by decide) ?_
  refine va_sld hx hb hX hbl hbA hS (in_c rfl) dL_law_428 ?_
  refine lv_seti (v := xs 1) (congrArg xs (by decide)) ?_
  refine lv_aload_n hx hb dL_law_429 rfl (lv_at hl 3 rfl) ?_
  refine lv_iload_n hx hb dL_law_430 rfl (lv_at hl 0 rfl) ?_
  refine lv_iconst (v := 2) hx hb dL_law_431 (by decide) ?_
  refine lv_iadd hx hb dL_law_432 ?_
  refine lv_seti (v := 2) (by decide) ?_
  refine va_sld hx hb hX hbl hbA hS (in_c rfl) dL_law_433 ?_
  refine lv_seti (v := xs 2) (congrArg xs (by decide)) ?_
  refine kRl (rV (As := [.int (xs 1), .int (xs 2)]) (rest := []) (b := qx) ⟨hx, hb, hml, hown, hts⟩ (p_X5_element l G cy qx qt qk qp qs qa qr qsh qss qsa qse fH (xs 1) (xs 2) hH) L_L_30 (preRV (q := (RX5, TX5, 9)) hN hP [0, 1, 2] rfl 0 4 rfl rfl) rfl ⟨Nat.le_of_ble_eq_true rfl, Nat.le_of_ble_eq_true rfl⟩ hl.1 (Nat.le_of_ble_eq_true rfl) dL_law_434 ⟨Nat.le_of_ble_eq_true rfl, Nat.le_of_ble_eq_true rfl⟩) (fun r_1 h_2 => ?_)
  subst h_2
  refine lv_aload_n hx hb dL_law_437 rfl (lv_at hl 1 rfl) ?_
  refine lv_aload_n hx hb dL_law_438 rfl (lv_at hl 3 rfl) ?_
  refine lv_iload_n hx hb dL_law_439 rfl (lv_at hl 0 rfl) ?_
  refine lv_iconst (v := 1) hx hb dL_law_440 (by decide) ?_
  refine lv_iadd hx hb dL_law_441 ?_
  refine lv_seti (v := 1) (by decide) ?_
  refine va_sld hx hb hX hbl hbA hS (in_c rfl) dL_law_442 ?_
  refine lv_seti (v := xs 1) (congrArg xs (by decide)) ?_
  refine lv_aload_n hx hb dL_law_443 rfl (lv_at hl 3 rfl) ?_
  refine lv_iload_n hx hb dL_law_444 rfl (lv_at hl 0 rfl) ?_
  refine lv_iconst (v := 2) hx hb dL_law_445 (by decide) ?_
  refine lv_iadd hx hb dL_law_446 ?_
  refine lv_seti (v := 2) (by decide) ?_
  refine va_sld hx hb hX hbl hbA hS (in_c rfl) dL_law_447 ?_
  refine lv_seti (v := xs 2) (congrArg xs (by decide)) ?_
  refine kRl (rV (As := [.int (xs 1), .int (xs 2)]) (rest := [.long 0]) (b := qm) ⟨hx, hb, hml, hown, hts⟩ (p_X6_element l G cy qm qms qmo qmz qmR qmv qmk qmb qmt qmr qmB qmO qmK qm_three qm_unread qm_tryRow qm_bestRow qm_steps (xs 1) (xs 2)) L_L_34 (preRV (q := (RX6, TX6, 35)) hN hP [3, 4] rfl 3 5 rfl rfl) rfl ⟨Nat.le_of_ble_eq_true rfl, Nat.le_of_ble_eq_true rfl⟩ hl.1 (Nat.le_of_ble_eq_true rfl) dL_law_448 ⟨Nat.le_of_ble_eq_true rfl, Nat.le_of_ble_eq_true rfl⟩) (fun r_3 h_4 => ?_)
  subst h_4
  refine W.lcmp hx hb dL_law_451 ?_
  refine lv_seti (v := 0) (by decide) ?_
  refine lv_if_eq (tgt := 1808) hx hb dL_law_452 (by decide) (fun _ => ?_) (fun h9 => absurd (by decide) h9)
  exact law_tail hx hb hr hml hX hbl hlocks hAn hbA hS (lv_sub hl [0, 3] rfl) (Nat.le_of_ble_eq_true rfl) (Nat.le_of_ble_eq_true rfl)
set_option maxHeartbeats 4000000 in
set_option maxRecDepth 100000 in
theorem law_4 {p : Program} {l : Launch} {e : Env} {s : State} {m : MethodId} {below : List Frame} {meth : Method} {c : Code} {b : Nat} {xs : Nat → Int32} {A : Nat → Prop} {G : va_G} {cy : Nat → ClassId} {H : Heap} {locs : List Loc} {ls : Array Slot} (qx : Nat) (qt : Nat) (qk : Nat) (qp : Nat) (qs : Nat) (qa : Nat) (qr : Nat) (qsh : Nat) (qss : Nat) (qsa : Nat) (qse : Nat) (fH : Nat → Int32) (qm : Nat) (qms : Nat) (qmo : Nat) (qmz : Nat) (qmR : Nat) (qmv : Nat) (qmk : Nat) (qmb : Nat) (qmt : Nat) (qmr : Nat) (qmB : Nat) (qmO : Nat) (qmK : Nat) (qm_three : Nat) (qm_unread : Nat) (qm_tryRow : Nat) (qm_bestRow : Nat) (qm_steps : Nat) (hx : p.tables.exec = Jvm.exec) (hb : c.code = code) (hr : meth.sig.returnType = ret) (hml : c.maxLocals = 4) (hown : s.vm.findClass RL = some m.cls) (hts : ∀ w ∈ BIG, w.before #[Value.ref b] s = true) (hX : va_X b 6 xs s s.heap) (hbl : b < s.heap.size) (hlocks : meth.locks = false) (hN : KN G cy s) (hA : ∀ q : Nat, s.heap.size ≤ q → A q) (hAn : ∀ q : Nat, A q → s.heap.size ≤ q) (hbA : ¬ A b) (hP : va_P G CL [(qx, .inr (4, [.ref qt, .ref qk, .ref qp, .ref qs, .ref qa, .ref qr, .int 0, .int 0, .int 0])), (qs, .inr (1, [.ref qsh, .ref qss, .ref qsa, .ref qse])), (qsh, .inl (cy 0, 8, .inl fH)), (qm, .inr (5, [.ref qms, .ref qmo, .ref qmz, .ref qmR, .ref qmv, .ref qmk, .ref qmb, .ref qmt, .int 0, .ref qmr, .int 0, .ref qmB, .int 0, .ref qmO, .ref qmK, .int 0, .int 0, .int 1, .null, .null, .int 0, .int 0, .int 0, .long 0, .int 0, .ref qm_three, .int 0, .int 0, .int 0, .null, .ref qm_unread, .ref qm_tryRow, .ref qm_bestRow, .ref qm_steps, .int 0])), (qms, .inl (cy 0, 8, .inl (fun _ => 0)))] H) (hD : va_D A [(qx, .inr (4, [.ref qt, .ref qk, .ref qp, .ref qs, .ref qa, .ref qr, .int 0, .int 0, .int 0])), (qs, .inr (1, [.ref qsh, .ref qss, .ref qsa, .ref qse])), (qsh, .inl (cy 0, 8, .inl fH)), (qm, .inr (5, [.ref qms, .ref qmo, .ref qmz, .ref qmR, .ref qmv, .ref qmk, .ref qmb, .ref qmt, .int 0, .ref qmr, .int 0, .ref qmB, .int 0, .ref qmO, .ref qmK, .int 0, .int 0, .int 1, .null, .null, .int 0, .int 0, .int 0, .long 0, .int 0, .ref qm_three, .int 0, .int 0, .int 0, .null, .ref qm_unread, .ref qm_tryRow, .ref qm_bestRow, .ref qm_steps, .int 0])), (qms, .inl (cy 0, 8, .inl (fun _ => 0)))]) (hS : va_S A s.heap H locs) (hl : lv_has ls 4 [(3, .int 0), (2, .ref qm), (1, .ref qx), (0, .ref b)]) (hH : ∀ i, i < 8 → fH i = -1) : W p l e room_1 s m #[Value.ref b] below meth c H locs 105 2176 (lw_Z below #[Value.ref b] s) (F0 m 457 ls []) := by
  have hK := hN.1
  refine lv_aload_n hx hb dL_law_457 rfl (lv_at hl 2 rfl) ?_
  refine lv_aload_n hx hb dL_law_458 rfl (lv_at hl 3 rfl) ?_
  refine lv_iload_n hx hb dL_law_459 rfl (lv_at hl 0 rfl) ?_
  refine lv_iconst (v := 1) hx hb dL_law_460 (by decide) ?_
  refine lv_iadd hx hb dL_law_461 ?_
  refine lv_seti (v := 1) (by decide) ?_
  refine va_sld hx hb hX hbl hbA hS (in_c rfl) dL_law_462 ?_
  refine lv_seti (v := xs 1) (congrArg xs (by decide)) ?_
  refine kRi (rV (As := [.int (xs 1)]) (rest := []) (b := qx) ⟨hx, hb, hml, hown, hts⟩ (p_X5_holds l G cy qx qt qk qp qs qa qr qsh qss qsa qse fH (xs 1) hH) L_L_35 (preRV (q := (RX5, TX5, 9)) hN hP [0, 1, 2] rfl 0 4 rfl rfl) rfl ⟨Nat.le_of_ble_eq_true rfl, Nat.le_of_ble_eq_true rfl⟩ hl.1 (Nat.le_of_ble_eq_true rfl) dL_law_463 ⟨Nat.le_of_ble_eq_true rfl, Nat.le_of_ble_eq_true rfl⟩) (fun r_1 h_2 => ?_)
  subst h_2
  refine lv_aload_n hx hb dL_law_466 rfl (lv_at hl 1 rfl) ?_
  refine lv_aload_n hx hb dL_law_467 rfl (lv_at hl 3 rfl) ?_
  refine lv_iload_n hx hb dL_law_468 rfl (lv_at hl 0 rfl) ?_
  refine lv_iconst (v := 1) hx hb dL_law_469 (by decide) ?_
  refine lv_iadd hx hb dL_law_470 ?_
  refine lv_seti (v := 1) (by decide) ?_
  refine va_sld hx hb hX hbl hbA hS (in_c rfl) dL_law_471 ?_
  refine lv_seti (v := xs 1) (congrArg xs (by decide)) ?_
  refine kRi (rV (As := [.int (xs 1)]) (rest := [.int (-1)]) (b := qm) ⟨hx, hb, hml, hown, hts⟩ (p_X6_holds l G cy qm qms qmo qmz qmR qmv qmk qmb qmt qmr qmB qmO qmK qm_three qm_unread qm_tryRow qm_bestRow qm_steps (xs 1)) L_L_39 (preRV (q := (RX6, TX6, 35)) hN hP [3, 4] rfl 3 5 rfl rfl) rfl ⟨Nat.le_of_ble_eq_true rfl, Nat.le_of_ble_eq_true rfl⟩ hl.1 (Nat.le_of_ble_eq_true rfl) dL_law_472 ⟨Nat.le_of_ble_eq_true rfl, Nat.le_of_ble_eq_true rfl⟩) (fun r_3 h_4 => ?_)
  subst h_4
  refine lv_icmp_eq (tgt := 1808) hx hb dL_law_475 (by decide) (fun _ => ?_) (fun h9 => absurd (by decide) h9)
  exact law_tail hx hb hr hml hX hbl hlocks hAn hbA hS (lv_sub hl [0, 3] rfl) (Nat.le_of_ble_eq_true rfl) (Nat.le_of_ble_eq_true rfl)
set_option maxHeartbeats 4000000 in
set_option maxRecDepth 100000 in
theorem law_5 {p : Program} {l : Launch} {e : Env} {s : State} {m : MethodId} {below : List Frame} {meth : Method} {c : Code} {b : Nat} {xs : Nat → Int32} {A : Nat → Prop} {G : va_G} {cy : Nat → ClassId} {H : Heap} {locs : List Loc} {ls : Array Slot} (qx : Nat) (qt : Nat) (qk : Nat) (qp : Nat) (qs : Nat) (qa : Nat) (qr : Nat) (qsh : Nat) (qss : Nat) (qsa : Nat) (qse : Nat) (fH : Nat → Int32) (qm : Nat) (qms : Nat) (qmo : Nat) (qmz : Nat) (qmR : Nat) (qmv : Nat) (qmk : Nat) (qmb : Nat) (qmt : Nat) (qmr : Nat) (qmB : Nat) (qmO : Nat) (qmK : Nat) (qm_three : Nat) (qm_unread : Nat) (qm_tryRow : Nat) (qm_bestRow : Nat) (qm_steps : Nat) (hx : p.tables.exec = Jvm.exec) (hb : c.code = code) (hr : meth.sig.returnType = ret) (hml : c.maxLocals = 4) (hown : s.vm.findClass RL = some m.cls) (hts : ∀ w ∈ BIG, w.before #[Value.ref b] s = true) (hX : va_X b 6 xs s s.heap) (hbl : b < s.heap.size) (hlocks : meth.locks = false) (hN : KN G cy s) (hA : ∀ q : Nat, s.heap.size ≤ q → A q) (hAn : ∀ q : Nat, A q → s.heap.size ≤ q) (hbA : ¬ A b) (hP : va_P G CL [(qx, .inr (4, [.ref qt, .ref qk, .ref qp, .ref qs, .ref qa, .ref qr, .int 0, .int 0, .int 0])), (qr, .inl (cy 0, 5, .inl (fun _ => 0))), (qs, .inr (1, [.ref qsh, .ref qss, .ref qsa, .ref qse])), (qsh, .inl (cy 0, 8, .inl fH)), (qsa, .inl (cy 0, 8, .inl (fun _ => 0))), (qm, .inr (5, [.ref qms, .ref qmo, .ref qmz, .ref qmR, .ref qmv, .ref qmk, .ref qmb, .ref qmt, .int 0, .ref qmr, .int 0, .ref qmB, .int 0, .ref qmO, .ref qmK, .int 0, .int 0, .int 1, .null, .null, .int 0, .int 0, .int 0, .long 0, .int 0, .ref qm_three, .int 0, .int 0, .int 0, .null, .ref qm_unread, .ref qm_tryRow, .ref qm_bestRow, .ref qm_steps, .int 0])), (qms, .inl (cy 0, 8, .inl (fun _ => 0))), (qmk, .inl (cy 0, 8, .inl (fun _ => 0))), (qmb, .inl (cy 0, 8, .inl (fun _ => 0))), (qmr, .inl (cy 0, 8, .inl (fun _ => 0)))] H) (hD : va_D A [(qx, .inr (4, [.ref qt, .ref qk, .ref qp, .ref qs, .ref qa, .ref qr, .int 0, .int 0, .int 0])), (qr, .inl (cy 0, 5, .inl (fun _ => 0))), (qs, .inr (1, [.ref qsh, .ref qss, .ref qsa, .ref qse])), (qsh, .inl (cy 0, 8, .inl fH)), (qsa, .inl (cy 0, 8, .inl (fun _ => 0))), (qm, .inr (5, [.ref qms, .ref qmo, .ref qmz, .ref qmR, .ref qmv, .ref qmk, .ref qmb, .ref qmt, .int 0, .ref qmr, .int 0, .ref qmB, .int 0, .ref qmO, .ref qmK, .int 0, .int 0, .int 1, .null, .null, .int 0, .int 0, .int 0, .long 0, .int 0, .ref qm_three, .int 0, .int 0, .int 0, .null, .ref qm_unread, .ref qm_tryRow, .ref qm_bestRow, .ref qm_steps, .int 0])), (qms, .inl (cy 0, 8, .inl (fun _ => 0))), (qmk, .inl (cy 0, 8, .inl (fun _ => 0))), (qmb, .inl (cy 0, 8, .inl (fun _ => 0))), (qmr, .inl (cy 0, 8, .inl (fun _ => 0)))]) (hS : va_S A s.heap H locs) (hl : lv_has ls 4 [(3, .int 0), (2, .ref qm), (1, .ref qx), (0, .ref b)]) (hH : ∀ i, i < 8 → fH i = -1) : W p l e room_1 s m #[Value.ref b] below meth c H locs 105 2176 (lw_Z below #[Value.ref b] s) (F0 m 480 ls []) := by
  have hK := hN.1
  refine lv_aload_n hx hb dL_law_480 rfl (lv_at hl 2 rfl) ?_
  refine lv_aload_n hx hb dL_law_481 rfl (lv_at hl 3 rfl) ?_
  refine lv_iload_n hx hb dL_law_482 rfl (lv_at hl 0 rfl) ?_
  refine lv_iconst (v := 1) hx hb dL_law_483 (by decide) ?_
  refine lv_iadd hx hb dL_law_484 ?_
  refine lv_seti (v := 1) (by decide) ?_
  refine va_sld hx hb hX hbl hbA hS (in_c rfl) dL_law_485 ?_
  refine lv_seti (v := xs 1) (congrArg xs (by decide)) ?_
  refine lv_aload_n hx hb dL_law_486 rfl (lv_at hl 3 rfl) ?_
  refine lv_iload_n hx hb dL_law_487 rfl (lv_at hl 0 rfl) ?_
  refine lv_iconst (v := 2) hx hb dL_law_488 (by decide) ?_
  refine lv_iadd hx hb dL_law_489 ?_
  refine lv_seti (v := 2) (by decide) ?_
  refine va_sld hx hb hX hbl hbA hS (in_c rfl) dL_law_490 ?_
  refine lv_seti (v := xs 2) (congrArg xs (by decide)) ?_
  refine lv_aload_n hx hb dL_law_491 rfl (lv_at hl 3 rfl) ?_
  refine lv_iload_n hx hb dL_law_492 rfl (lv_at hl 0 rfl) ?_
  refine lv_iconst (v := 3) hx hb dL_law_493 (by decide) ?_
  refine lv_iadd hx hb dL_law_494 ?_
  refine lv_seti (v := 3) (by decide) ?_
  refine va_sld hx hb hX hbl hbA hS (in_c rfl) dL_law_495 ?_
  refine lv_seti (v := xs 3) (congrArg xs (by decide)) ?_
  refine kWi (wr := [(qm, .inr (5, [.ref qms, .ref qmo, .ref qmz, .ref qmR, .ref qmv, .ref qmk, .ref qmb, .ref qmt, .int 0, .ref qmr, .int 0, .ref qmB, .int 0, .ref qmO, .ref qmK, .int 0, .int 0, .int 1, .null, .null, .int 0, .int 0, .int 0, .long 0, .int 0, .ref qm_three, .int 0, .int 0, .int 0, .null, .ref qm_unread, .ref qm_tryRow, .ref qm_bestRow, .ref qm_steps, .int 0])), (qms, .inl (cy 0, 8, .inl (fun _ => 0))), (qmk, .inl (cy 0, 8, .inl (fun _ => 0))), (qmb, .inl (cy 0, 8, .inl (fun _ => 0))), (qmr, .inl (cy 0, 8, .inl (fun _ => 0)))]) (rV (As := [.int (xs 1), .int (xs 2), .int (xs 3)]) (rest := []) (b := qx) ⟨hx, hb, hml, hown, hts⟩ (p_X5_rule l G cy (H).size qx qt qk qp qs qa qr qsh qss qsa qse fH (xs 1) (xs 2) (xs 3) hH) L_L_40 (preWV (q := (RX5, TX5, 9)) hN hP hD [0, 1, 2, 3, 4] rfl (by decide) 0 4 rfl rfl) rfl ⟨Nat.le_of_ble_eq_true rfl, Nat.le_of_ble_eq_true rfl⟩ hl.1 (Nat.le_of_ble_eq_true rfl) dL_law_496 ⟨Nat.le_of_ble_eq_true rfl, Nat.le_of_ble_eq_true rfl⟩) hP hD hS hA [0, 1, 2, 3, 4] [5, 6, 7, 8, 9] rfl rfl (by decide) (by decide) (fun r_1 u_3 H locs h_2 hP hD hS => ?_)
  obtain ⟨rfl, h_2⟩ := h_2
  have hP : va_P G CL [(qm, .inr (5, [.ref qms, .ref qmo, .ref qmz, .ref qmR, .ref qmv, .ref qmk, .ref qmb, .ref qmt, .int 0, .ref qmr, .int 0, .ref qmB, .int 0, .ref qmO, .ref qmK, .int 0, .int 0, .int 1, .null, .null, .int 0, .int 0, .int 0, .long 0, .int 0, .ref qm_three, .int 0, .int 0, .int 0, .null, .ref qm_unread, .ref qm_tryRow, .ref qm_bestRow, .ref qm_steps, .int 0])), (qms, .inl (cy 0, 8, .inl (fun _ => 0))), (qmk, .inl (cy 0, 8, .inl (fun _ => 0))), (qmb, .inl (cy 0, 8, .inl (fun _ => 0))), (qmr, .inl (cy 0, 8, .inl (fun _ => 0)))] H := hP
  have hD : va_D A [(qm, .inr (5, [.ref qms, .ref qmo, .ref qmz, .ref qmR, .ref qmv, .ref qmk, .ref qmb, .ref qmt, .int 0, .ref qmr, .int 0, .ref qmB, .int 0, .ref qmO, .ref qmK, .int 0, .int 0, .int 1, .null, .null, .int 0, .int 0, .int 0, .long 0, .int 0, .ref qm_three, .int 0, .int 0, .int 0, .null, .ref qm_unread, .ref qm_tryRow, .ref qm_bestRow, .ref qm_steps, .int 0])), (qms, .inl (cy 0, 8, .inl (fun _ => 0))), (qmk, .inl (cy 0, 8, .inl (fun _ => 0))), (qmb, .inl (cy 0, 8, .inl (fun _ => 0))), (qmr, .inl (cy 0, 8, .inl (fun _ => 0)))] := hD
  subst h_2
  refine lv_aload_n hx hb dL_law_499 rfl (lv_at hl 1 rfl) ?_
  refine lv_aload_n hx hb dL_law_500 rfl (lv_at hl 3 rfl) ?_
  refine lv_iload_n hx hb dL_law_501 rfl (lv_at hl 0 rfl) ?_
  refine lv_iconst (v := 1) hx hb dL_law_502 (by decide) ?_
  refine lv_iadd hx hb dL_law_503 ?_
  refine lv_seti (v := 1) (by decide) ?_
  refine va_sld hx hb hX hbl hbA hS (in_c rfl) dL_law_504 ?_
  refine lv_seti (v := xs 1) (congrArg xs (by decide)) ?_
  refine lv_aload_n hx hb dL_law_505 rfl (lv_at hl 3 rfl) ?_
  refine lv_iload_n hx hb dL_law_506 rfl (lv_at hl 0 rfl) ?_
  refine lv_iconst (v := 2) hx hb dL_law_507 (by decide) ?_
  refine lv_iadd hx hb dL_law_508 ?_
  refine lv_seti (v := 2) (by decide) ?_
  refine va_sld hx hb hX hbl hbA hS (in_c rfl) dL_law_509 ?_
  refine lv_seti (v := xs 2) (congrArg xs (by decide)) ?_
  refine lv_aload_n hx hb dL_law_510 rfl (lv_at hl 3 rfl) ?_
  refine lv_iload_n hx hb dL_law_511 rfl (lv_at hl 0 rfl) ?_
  refine lv_iconst (v := 3) hx hb dL_law_512 (by decide) ?_
  refine lv_iadd hx hb dL_law_513 ?_
  refine lv_seti (v := 3) (by decide) ?_
  refine va_sld hx hb hX hbl hbA hS (in_c rfl) dL_law_514 ?_
  refine lv_seti (v := xs 3) (congrArg xs (by decide)) ?_
  refine kWi (wr := []) (rV (As := [.int (xs 1), .int (xs 2), .int (xs 3)]) (rest := [.int (sp_rule (xs 1) (xs 2) (xs 3))]) (b := qm) ⟨hx, hb, hml, hown, hts⟩ (p_X6_rule l G cy (H).size qm qms qmo qmz qmR qmv qmk qmb qmt qmr qmB qmO qmK qm_three qm_unread qm_tryRow qm_bestRow qm_steps (xs 1) (xs 2) (xs 3)) L_L_43 (preWV (q := (RX6, TX6, 35)) hN hP hD [0, 1, 2, 3, 4] rfl (by decide) 0 5 rfl rfl) rfl ⟨Nat.le_of_ble_eq_true rfl, Nat.le_of_ble_eq_true rfl⟩ hl.1 (Nat.le_of_ble_eq_true rfl) dL_law_515 ⟨Nat.le_of_ble_eq_true rfl, Nat.le_of_ble_eq_true rfl⟩) hP hD hS hA [0, 1, 2, 3, 4] [] rfl rfl (by decide) (by decide) (fun r_4 u_6 H locs h_5 hP hD hS => ?_)
  obtain ⟨rfl, h_5⟩ := h_5
  have hP : va_P G CL [] H := hP
  have hD : va_D A [] := hD
  subst h_5
  refine lv_icmp_eq (tgt := 1808) hx hb dL_law_518 (by decide) (fun _ => ?_) (fun h9 => absurd rfl h9)
  exact law_tail hx hb hr hml hX hbl hlocks hAn hbA hS (lv_sub hl [0, 3] rfl) (Nat.le_of_ble_eq_true rfl) (Nat.le_of_ble_eq_true rfl)
set_option maxHeartbeats 4000000 in
set_option maxRecDepth 100000 in
theorem law_6 {p : Program} {l : Launch} {e : Env} {s : State} {m : MethodId} {below : List Frame} {meth : Method} {c : Code} {b : Nat} {xs : Nat → Int32} {A : Nat → Prop} {G : va_G} {cy : Nat → ClassId} {H : Heap} {locs : List Loc} {ls : Array Slot} (qx : Nat) (qt : Nat) (qk : Nat) (qp : Nat) (qs : Nat) (qa : Nat) (qr : Nat) (qsh : Nat) (qss : Nat) (qsa : Nat) (qse : Nat) (fH : Nat → Int32) (qm : Nat) (qms : Nat) (qmo : Nat) (qmz : Nat) (qmR : Nat) (qmv : Nat) (qmk : Nat) (qmb : Nat) (qmt : Nat) (qmr : Nat) (qmB : Nat) (qmO : Nat) (qmK : Nat) (qm_three : Nat) (qm_unread : Nat) (qm_tryRow : Nat) (qm_bestRow : Nat) (qm_steps : Nat) (hx : p.tables.exec = Jvm.exec) (hb : c.code = code) (hr : meth.sig.returnType = ret) (hml : c.maxLocals = 4) (hown : s.vm.findClass RL = some m.cls) (hts : ∀ w ∈ BIG, w.before #[Value.ref b] s = true) (hX : va_X b 6 xs s s.heap) (hbl : b < s.heap.size) (hlocks : meth.locks = false) (hN : KN G cy s) (hA : ∀ q : Nat, s.heap.size ≤ q → A q) (hAn : ∀ q : Nat, A q → s.heap.size ≤ q) (hbA : ¬ A b) (hP : va_P G CL [(qx, .inr (4, [.ref qt, .ref qk, .ref qp, .ref qs, .ref qa, .ref qr, .int 0, .int 0, .int 0])), (qr, .inl (cy 0, 5, .inl (fun _ => 0))), (qs, .inr (1, [.ref qsh, .ref qss, .ref qsa, .ref qse])), (qsh, .inl (cy 0, 8, .inl fH)), (qm, .inr (5, [.ref qms, .ref qmo, .ref qmz, .ref qmR, .ref qmv, .ref qmk, .ref qmb, .ref qmt, .int 0, .ref qmr, .int 0, .ref qmB, .int 0, .ref qmO, .ref qmK, .int 0, .int 0, .int 1, .null, .null, .int 0, .int 0, .int 0, .long 0, .int 0, .ref qm_three, .int 0, .int 0, .int 0, .null, .ref qm_unread, .ref qm_tryRow, .ref qm_bestRow, .ref qm_steps, .int 0])), (qms, .inl (cy 0, 8, .inl (fun _ => 0))), (qmr, .inl (cy 0, 8, .inl (fun _ => 0)))] H) (hD : va_D A [(qx, .inr (4, [.ref qt, .ref qk, .ref qp, .ref qs, .ref qa, .ref qr, .int 0, .int 0, .int 0])), (qr, .inl (cy 0, 5, .inl (fun _ => 0))), (qs, .inr (1, [.ref qsh, .ref qss, .ref qsa, .ref qse])), (qsh, .inl (cy 0, 8, .inl fH)), (qm, .inr (5, [.ref qms, .ref qmo, .ref qmz, .ref qmR, .ref qmv, .ref qmk, .ref qmb, .ref qmt, .int 0, .ref qmr, .int 0, .ref qmB, .int 0, .ref qmO, .ref qmK, .int 0, .int 0, .int 1, .null, .null, .int 0, .int 0, .int 0, .long 0, .int 0, .ref qm_three, .int 0, .int 0, .int 0, .null, .ref qm_unread, .ref qm_tryRow, .ref qm_bestRow, .ref qm_steps, .int 0])), (qms, .inl (cy 0, 8, .inl (fun _ => 0))), (qmr, .inl (cy 0, 8, .inl (fun _ => 0)))]) (hS : va_S A s.heap H locs) (hl : lv_has ls 4 [(3, .int 0), (2, .ref qm), (1, .ref qx), (0, .ref b)]) (hH : ∀ i, i < 8 → fH i = -1) : W p l e room_1 s m #[Value.ref b] below meth c H locs 105 2176 (lw_Z below #[Value.ref b] s) (F0 m 523 ls []) := by
  have hK := hN.1
  refine lv_aload_n hx hb dL_law_523 rfl (lv_at hl 2 rfl) ?_
  refine lv_aload_n hx hb dL_law_524 rfl (lv_at hl 3 rfl) ?_
  refine lv_iload_n hx hb dL_law_525 rfl (lv_at hl 0 rfl) ?_
  refine lv_iconst (v := 1) hx hb dL_law_526 (by decide) ?_
  refine lv_iadd hx hb dL_law_527 ?_
  refine lv_seti (v := 1) (by decide) ?_
  refine va_sld hx hb hX hbl hbA hS (in_c rfl) dL_law_528 ?_
  refine lv_seti (v := xs 1) (congrArg xs (by decide)) ?_
  refine lv_aload_n hx hb dL_law_529 rfl (lv_at hl 3 rfl) ?_
  refine lv_iload_n hx hb dL_law_530 rfl (lv_at hl 0 rfl) ?_
  refine lv_iconst (v := 2) hx hb dL_law_531 (by decide) ?_
  refine lv_iadd hx hb dL_law_532 ?_
  refine lv_seti (v := 2) (by decide) ?_
  refine va_sld hx hb hX hbl hbA hS (in_c rfl) dL_law_533 ?_
  refine lv_seti (v := xs 2) (congrArg xs (by decide)) ?_
  refine kWi (wr := [(qm, .inr (5, [.ref qms, .ref qmo, .ref qmz, .ref qmR, .ref qmv, .ref qmk, .ref qmb, .ref qmt, .int 0, .ref qmr, .int 0, .ref qmB, .int 0, .ref qmO, .ref qmK, .int 0, .int 0, .int 1, .null, .null, .int 0, .int 0, .int 0, .long 0, .int 0, .ref qm_three, .int 0, .int 0, .int 0, .null, .ref qm_unread, .ref qm_tryRow, .ref qm_bestRow, .ref qm_steps, .int 0])), (qms, .inl (cy 0, 8, .inl (fun _ => 0))), (qmr, .inl (cy 0, 8, .inl (fun _ => 0)))]) (rV (As := [.int (xs 1), .int (xs 2)]) (rest := []) (b := qx) ⟨hx, hb, hml, hown, hts⟩ (p_X5_says l G cy (H).size qx qt qk qp qs qa qr qsh qss qsa qse fH (xs 1) (xs 2) hH) L_L_44 (preWV (q := (RX5, TX5, 9)) hN hP hD [0, 1, 2, 3] rfl (by decide) 0 4 rfl rfl) rfl ⟨Nat.le_of_ble_eq_true rfl, Nat.le_of_ble_eq_true rfl⟩ hl.1 (Nat.le_of_ble_eq_true rfl) dL_law_534 ⟨Nat.le_of_ble_eq_true rfl, Nat.le_of_ble_eq_true rfl⟩) hP hD hS hA [0, 1, 2, 3] [4, 5, 6] rfl rfl (by decide) (by decide) (fun r_1 u_3 H locs h_2 hP hD hS => ?_)
  obtain ⟨rfl, h_2⟩ := h_2
  have hP : va_P G CL [(qm, .inr (5, [.ref qms, .ref qmo, .ref qmz, .ref qmR, .ref qmv, .ref qmk, .ref qmb, .ref qmt, .int 0, .ref qmr, .int 0, .ref qmB, .int 0, .ref qmO, .ref qmK, .int 0, .int 0, .int 1, .null, .null, .int 0, .int 0, .int 0, .long 0, .int 0, .ref qm_three, .int 0, .int 0, .int 0, .null, .ref qm_unread, .ref qm_tryRow, .ref qm_bestRow, .ref qm_steps, .int 0])), (qms, .inl (cy 0, 8, .inl (fun _ => 0))), (qmr, .inl (cy 0, 8, .inl (fun _ => 0)))] H := hP
  have hD : va_D A [(qm, .inr (5, [.ref qms, .ref qmo, .ref qmz, .ref qmR, .ref qmv, .ref qmk, .ref qmb, .ref qmt, .int 0, .ref qmr, .int 0, .ref qmB, .int 0, .ref qmO, .ref qmK, .int 0, .int 0, .int 1, .null, .null, .int 0, .int 0, .int 0, .long 0, .int 0, .ref qm_three, .int 0, .int 0, .int 0, .null, .ref qm_unread, .ref qm_tryRow, .ref qm_bestRow, .ref qm_steps, .int 0])), (qms, .inl (cy 0, 8, .inl (fun _ => 0))), (qmr, .inl (cy 0, 8, .inl (fun _ => 0)))] := hD
  subst h_2
  refine lv_aload_n hx hb dL_law_537 rfl (lv_at hl 1 rfl) ?_
  refine lv_aload_n hx hb dL_law_538 rfl (lv_at hl 3 rfl) ?_
  refine lv_iload_n hx hb dL_law_539 rfl (lv_at hl 0 rfl) ?_
  refine lv_iconst (v := 1) hx hb dL_law_540 (by decide) ?_
  refine lv_iadd hx hb dL_law_541 ?_
  refine lv_seti (v := 1) (by decide) ?_
  refine va_sld hx hb hX hbl hbA hS (in_c rfl) dL_law_542 ?_
  refine lv_seti (v := xs 1) (congrArg xs (by decide)) ?_
  refine lv_aload_n hx hb dL_law_543 rfl (lv_at hl 3 rfl) ?_
  refine lv_iload_n hx hb dL_law_544 rfl (lv_at hl 0 rfl) ?_
  refine lv_iconst (v := 2) hx hb dL_law_545 (by decide) ?_
  refine lv_iadd hx hb dL_law_546 ?_
  refine lv_seti (v := 2) (by decide) ?_
  refine va_sld hx hb hX hbl hbA hS (in_c rfl) dL_law_547 ?_
  refine lv_seti (v := xs 2) (congrArg xs (by decide)) ?_
  refine kWi (wr := []) (rV (As := [.int (xs 1), .int (xs 2)]) (rest := [.int (sp_says (xs 1) (xs 2))]) (b := qm) ⟨hx, hb, hml, hown, hts⟩ (p_X6_says l G cy (H).size qm qms qmo qmz qmR qmv qmk qmb qmt qmr qmB qmO qmK qm_three qm_unread qm_tryRow qm_bestRow qm_steps (xs 1) (xs 2)) L_L_48 (preWV (q := (RX6, TX6, 35)) hN hP hD [0, 1, 2] rfl (by decide) 0 5 rfl rfl) rfl ⟨Nat.le_of_ble_eq_true rfl, Nat.le_of_ble_eq_true rfl⟩ hl.1 (Nat.le_of_ble_eq_true rfl) dL_law_548 ⟨Nat.le_of_ble_eq_true rfl, Nat.le_of_ble_eq_true rfl⟩) hP hD hS hA [0, 1, 2] [] rfl rfl (by decide) (by decide) (fun r_4 u_6 H locs h_5 hP hD hS => ?_)
  obtain ⟨rfl, h_5⟩ := h_5
  have hP : va_P G CL [] H := hP
  have hD : va_D A [] := hD
  subst h_5
  refine lv_icmp_eq (tgt := 1808) hx hb dL_law_551 (by decide) (fun _ => ?_) (fun h9 => absurd rfl h9)
  exact law_tail hx hb hr hml hX hbl hlocks hAn hbA hS (lv_sub hl [0, 3] rfl) (Nat.le_of_ble_eq_true rfl) (Nat.le_of_ble_eq_true rfl)
set_option maxHeartbeats 4000000 in
set_option maxRecDepth 100000 in
theorem law_7 {p : Program} {l : Launch} {e : Env} {s : State} {m : MethodId} {below : List Frame} {meth : Method} {c : Code} {b : Nat} {xs : Nat → Int32} {A : Nat → Prop} {G : va_G} {cy : Nat → ClassId} {H : Heap} {locs : List Loc} {ls : Array Slot} (qx : Nat) (qt : Nat) (qk : Nat) (qp : Nat) (qs : Nat) (qa : Nat) (qr : Nat) (qtw : Nat) (qtn : Nat) (qtg : Nat) (qta : Nat) (qtr : Nat) (qtm : Nat) (qtt : Nat) (qts : Nat) (qm : Nat) (qms : Nat) (qmo : Nat) (qmz : Nat) (qmR : Nat) (qmv : Nat) (qmk : Nat) (qmb : Nat) (qmt : Nat) (qmr : Nat) (qmB : Nat) (qmO : Nat) (qmK : Nat) (qm_three : Nat) (qm_unread : Nat) (qm_tryRow : Nat) (qm_bestRow : Nat) (qm_steps : Nat) (rB : Nat → Nat) (rK : Nat → Nat) (hx : p.tables.exec = Jvm.exec) (hb : c.code = code) (hr : meth.sig.returnType = ret) (hml : c.maxLocals = 4) (hown : s.vm.findClass RL = some m.cls) (hts : ∀ w ∈ BIG, w.before #[Value.ref b] s = true) (hX : va_X b 6 xs s s.heap) (hbl : b < s.heap.size) (hlocks : meth.locks = false) (hN : KN G cy s) (hA : ∀ q : Nat, s.heap.size ≤ q → A q) (hAn : ∀ q : Nat, A q → s.heap.size ≤ q) (hbA : ¬ A b) (hP : va_P G CL [(qx, .inr (4, [.ref qt, .ref qk, .ref qp, .ref qs, .ref qa, .ref qr, .int 0, .int 0, .int 0])), (qr, .inl (cy 0, 5, .inl (fun _ => 0))), (qt, .inr (3, [.int 0, .int 0, .int 0, .int 0, .int 1, .ref qtw, .ref qtn, .ref qtg, .ref qta, .ref qtr, .ref qtm, .ref qtt, .ref qts])), (qtw, .inl (cy 0, 8, .inl (fun _ => 0))), (qtn, .inl (cy 0, 8, .inl (fun _ => 0))), (qtg, .inl (cy 0, 8, .inl (fun _ => 0))), (qm, .inr (5, [.ref qms, .ref qmo, .ref qmz, .ref qmR, .ref qmv, .ref qmk, .ref qmb, .ref qmt, .int 0, .ref qmr, .int 0, .ref qmB, .int 0, .ref qmO, .ref qmK, .int 0, .int 0, .int 1, .null, .null, .int 0, .int 0, .int 0, .long 0, .int 0, .ref qm_three, .int 0, .int 0, .int 0, .null, .ref qm_unread, .ref qm_tryRow, .ref qm_bestRow, .ref qm_steps, .int 0])), (qmB, .inl (cy 3, 8, .inr (.inr (.inr (.inr (fun i => if i < 8 then some (rB i) else none)))))), (rB 0, .inl (cy 0, 4, .inl (fun _ => 0))), (qmK, .inl (cy 3, 8, .inr (.inr (.inr (.inr (fun i => if i < 8 then some (rK i) else none)))))), (rK 0, .inl (cy 0, 8, .inl (fun _ => 0))), (rK 1, .inl (cy 0, 8, .inl (fun _ => 0))), (rK 2, .inl (cy 0, 8, .inl (fun _ => 0))), (rK 3, .inl (cy 0, 8, .inl (fun _ => 0))), (rK 4, .inl (cy 0, 8, .inl (fun _ => 0))), (rK 5, .inl (cy 0, 8, .inl (fun _ => 0))), (rK 6, .inl (cy 0, 8, .inl (fun _ => 0))), (rK 7, .inl (cy 0, 8, .inl (fun _ => 0))), (qmr, .inl (cy 0, 8, .inl (fun _ => 0)))] H) (hD : va_D A [(qx, .inr (4, [.ref qt, .ref qk, .ref qp, .ref qs, .ref qa, .ref qr, .int 0, .int 0, .int 0])), (qr, .inl (cy 0, 5, .inl (fun _ => 0))), (qt, .inr (3, [.int 0, .int 0, .int 0, .int 0, .int 1, .ref qtw, .ref qtn, .ref qtg, .ref qta, .ref qtr, .ref qtm, .ref qtt, .ref qts])), (qtw, .inl (cy 0, 8, .inl (fun _ => 0))), (qtn, .inl (cy 0, 8, .inl (fun _ => 0))), (qtg, .inl (cy 0, 8, .inl (fun _ => 0))), (qm, .inr (5, [.ref qms, .ref qmo, .ref qmz, .ref qmR, .ref qmv, .ref qmk, .ref qmb, .ref qmt, .int 0, .ref qmr, .int 0, .ref qmB, .int 0, .ref qmO, .ref qmK, .int 0, .int 0, .int 1, .null, .null, .int 0, .int 0, .int 0, .long 0, .int 0, .ref qm_three, .int 0, .int 0, .int 0, .null, .ref qm_unread, .ref qm_tryRow, .ref qm_bestRow, .ref qm_steps, .int 0])), (qmB, .inl (cy 3, 8, .inr (.inr (.inr (.inr (fun i => if i < 8 then some (rB i) else none)))))), (rB 0, .inl (cy 0, 4, .inl (fun _ => 0))), (qmK, .inl (cy 3, 8, .inr (.inr (.inr (.inr (fun i => if i < 8 then some (rK i) else none)))))), (rK 0, .inl (cy 0, 8, .inl (fun _ => 0))), (rK 1, .inl (cy 0, 8, .inl (fun _ => 0))), (rK 2, .inl (cy 0, 8, .inl (fun _ => 0))), (rK 3, .inl (cy 0, 8, .inl (fun _ => 0))), (rK 4, .inl (cy 0, 8, .inl (fun _ => 0))), (rK 5, .inl (cy 0, 8, .inl (fun _ => 0))), (rK 6, .inl (cy 0, 8, .inl (fun _ => 0))), (rK 7, .inl (cy 0, 8, .inl (fun _ => 0))), (qmr, .inl (cy 0, 8, .inl (fun _ => 0)))]) (hS : va_S A s.heap H locs) (hl : lv_has ls 4 [(3, .int 0), (2, .ref qm), (1, .ref qx), (0, .ref b)]) : W p l e room_1 s m #[Value.ref b] below meth c H locs 105 2176 (lw_Z below #[Value.ref b] s) (F0 m 556 ls []) := by
  have hK := hN.1
  refine lv_aload_n hx hb dL_law_556 rfl (lv_at hl 2 rfl) ?_
  refine lv_aload_n hx hb dL_law_557 rfl (lv_at hl 3 rfl) ?_
  refine lv_iload_n hx hb dL_law_558 rfl (lv_at hl 0 rfl) ?_
  refine lv_iconst (v := 1) hx hb dL_law_559 (by decide) ?_
  refine lv_iadd hx hb dL_law_560 ?_
  refine lv_seti (v := 1) (by decide) ?_
  refine va_sld hx hb hX hbl hbA hS (in_c rfl) dL_law_561 ?_
  refine lv_seti (v := xs 1) (congrArg xs (by decide)) ?_
  refine lv_aload_n hx hb dL_law_562 rfl (lv_at hl 3 rfl) ?_
  refine lv_iload_n hx hb dL_law_563 rfl (lv_at hl 0 rfl) ?_
  refine lv_iconst (v := 2) hx hb dL_law_564 (by decide) ?_
  refine lv_iadd hx hb dL_law_565 ?_
  refine lv_seti (v := 2) (by decide) ?_
  refine va_sld hx hb hX hbl hbA hS (in_c rfl) dL_law_566 ?_
  refine lv_seti (v := xs 2) (congrArg xs (by decide)) ?_
  refine kWi (wr := [(qm, .inr (5, [.ref qms, .ref qmo, .ref qmz, .ref qmR, .ref qmv, .ref qmk, .ref qmb, .ref qmt, .int 0, .ref qmr, .int 0, .ref qmB, .int 0, .ref qmO, .ref qmK, .int 0, .int 0, .int 1, .null, .null, .int 0, .int 0, .int 0, .long 0, .int 0, .ref qm_three, .int 0, .int 0, .int 0, .null, .ref qm_unread, .ref qm_tryRow, .ref qm_bestRow, .ref qm_steps, .int 0])), (qmB, .inl (cy 3, 8, .inr (.inr (.inr (.inr (fun i => if i < 8 then some (rB i) else none)))))), (rB 0, .inl (cy 0, 4, .inl (fun _ => 0))), (qmK, .inl (cy 3, 8, .inr (.inr (.inr (.inr (fun i => if i < 8 then some (rK i) else none)))))), (rK 0, .inl (cy 0, 8, .inl (fun _ => 0))), (rK 1, .inl (cy 0, 8, .inl (fun _ => 0))), (rK 2, .inl (cy 0, 8, .inl (fun _ => 0))), (rK 3, .inl (cy 0, 8, .inl (fun _ => 0))), (rK 4, .inl (cy 0, 8, .inl (fun _ => 0))), (rK 5, .inl (cy 0, 8, .inl (fun _ => 0))), (rK 6, .inl (cy 0, 8, .inl (fun _ => 0))), (rK 7, .inl (cy 0, 8, .inl (fun _ => 0))), (qmr, .inl (cy 0, 8, .inl (fun _ => 0)))]) (rV (As := [.int (xs 1), .int (xs 2)]) (rest := []) (b := qx) ⟨hx, hb, hml, hown, hts⟩ (p_X5_book l G cy (H).size qx qt qk qp qs qa qr qtw qtn qtg qta qtr qtm qtt qts (xs 1) (xs 2)) L_L_49 (preWV (q := (RX5, TX5, 9)) hN hP hD [0, 1, 2, 3, 4, 5] rfl (by decide) 0 4 rfl rfl) rfl ⟨Nat.le_of_ble_eq_true rfl, Nat.le_of_ble_eq_true rfl⟩ hl.1 (Nat.le_of_ble_eq_true rfl) dL_law_567 ⟨Nat.le_of_ble_eq_true rfl, Nat.le_of_ble_eq_true rfl⟩) hP hD hS hA [0, 1, 2, 3, 4, 5] [6, 7, 8, 9, 10, 11, 12, 13, 14, 15, 16, 17, 18] rfl rfl (by decide) (by decide) (fun r_1 u_3 H locs h_2 hP hD hS => ?_)
  obtain ⟨rfl, h_2⟩ := h_2
  have hP : va_P G CL [(qm, .inr (5, [.ref qms, .ref qmo, .ref qmz, .ref qmR, .ref qmv, .ref qmk, .ref qmb, .ref qmt, .int 0, .ref qmr, .int 0, .ref qmB, .int 0, .ref qmO, .ref qmK, .int 0, .int 0, .int 1, .null, .null, .int 0, .int 0, .int 0, .long 0, .int 0, .ref qm_three, .int 0, .int 0, .int 0, .null, .ref qm_unread, .ref qm_tryRow, .ref qm_bestRow, .ref qm_steps, .int 0])), (qmB, .inl (cy 3, 8, .inr (.inr (.inr (.inr (fun i => if i < 8 then some (rB i) else none)))))), (rB 0, .inl (cy 0, 4, .inl (fun _ => 0))), (qmK, .inl (cy 3, 8, .inr (.inr (.inr (.inr (fun i => if i < 8 then some (rK i) else none)))))), (rK 0, .inl (cy 0, 8, .inl (fun _ => 0))), (rK 1, .inl (cy 0, 8, .inl (fun _ => 0))), (rK 2, .inl (cy 0, 8, .inl (fun _ => 0))), (rK 3, .inl (cy 0, 8, .inl (fun _ => 0))), (rK 4, .inl (cy 0, 8, .inl (fun _ => 0))), (rK 5, .inl (cy 0, 8, .inl (fun _ => 0))), (rK 6, .inl (cy 0, 8, .inl (fun _ => 0))), (rK 7, .inl (cy 0, 8, .inl (fun _ => 0))), (qmr, .inl (cy 0, 8, .inl (fun _ => 0)))] H := hP
  have hD : va_D A [(qm, .inr (5, [.ref qms, .ref qmo, .ref qmz, .ref qmR, .ref qmv, .ref qmk, .ref qmb, .ref qmt, .int 0, .ref qmr, .int 0, .ref qmB, .int 0, .ref qmO, .ref qmK, .int 0, .int 0, .int 1, .null, .null, .int 0, .int 0, .int 0, .long 0, .int 0, .ref qm_three, .int 0, .int 0, .int 0, .null, .ref qm_unread, .ref qm_tryRow, .ref qm_bestRow, .ref qm_steps, .int 0])), (qmB, .inl (cy 3, 8, .inr (.inr (.inr (.inr (fun i => if i < 8 then some (rB i) else none)))))), (rB 0, .inl (cy 0, 4, .inl (fun _ => 0))), (qmK, .inl (cy 3, 8, .inr (.inr (.inr (.inr (fun i => if i < 8 then some (rK i) else none)))))), (rK 0, .inl (cy 0, 8, .inl (fun _ => 0))), (rK 1, .inl (cy 0, 8, .inl (fun _ => 0))), (rK 2, .inl (cy 0, 8, .inl (fun _ => 0))), (rK 3, .inl (cy 0, 8, .inl (fun _ => 0))), (rK 4, .inl (cy 0, 8, .inl (fun _ => 0))), (rK 5, .inl (cy 0, 8, .inl (fun _ => 0))), (rK 6, .inl (cy 0, 8, .inl (fun _ => 0))), (rK 7, .inl (cy 0, 8, .inl (fun _ => 0))), (qmr, .inl (cy 0, 8, .inl (fun _ => 0)))] := hD
  subst h_2
  refine lv_aload_n hx hb dL_law_570 rfl (lv_at hl 1 rfl) ?_
  refine lv_aload_n hx hb dL_law_571 rfl (lv_at hl 3 rfl) ?_
  refine lv_iload_n hx hb dL_law_572 rfl (lv_at hl 0 rfl) ?_
  refine lv_iconst (v := 1) hx hb dL_law_573 (by decide) ?_
  refine lv_iadd hx hb dL_law_574 ?_
  refine lv_seti (v := 1) (by decide) ?_
  refine va_sld hx hb hX hbl hbA hS (in_c rfl) dL_law_575 ?_
  refine lv_seti (v := xs 1) (congrArg xs (by decide)) ?_
  refine lv_aload_n hx hb dL_law_576 rfl (lv_at hl 3 rfl) ?_
  refine lv_iload_n hx hb dL_law_577 rfl (lv_at hl 0 rfl) ?_
  refine lv_iconst (v := 2) hx hb dL_law_578 (by decide) ?_
  refine lv_iadd hx hb dL_law_579 ?_
  refine lv_seti (v := 2) (by decide) ?_
  refine va_sld hx hb hX hbl hbA hS (in_c rfl) dL_law_580 ?_
  refine lv_seti (v := xs 2) (congrArg xs (by decide)) ?_
  refine kWi (wr := []) (rV (As := [.int (xs 1), .int (xs 2)]) (rest := [.int (sp_book (xs 1) (xs 2))]) (b := qm) ⟨hx, hb, hml, hown, hts⟩ (p_X6_book l G cy (H).size qm qms qmo qmz qmR qmv qmk qmb qmt qmr qmB qmO qmK qm_three qm_unread qm_tryRow qm_bestRow qm_steps rB rK (xs 1) (xs 2)) L_L_52 (preWV (q := (RX6, TX6, 35)) hN hP hD [0, 1, 2, 3, 4, 5, 6, 7, 8, 9, 10, 11, 12] rfl (by decide) 0 5 rfl rfl) rfl ⟨Nat.le_of_ble_eq_true rfl, Nat.le_of_ble_eq_true rfl⟩ hl.1 (Nat.le_of_ble_eq_true rfl) dL_law_581 ⟨Nat.le_of_ble_eq_true rfl, Nat.le_of_ble_eq_true rfl⟩) hP hD hS hA [0, 1, 2, 3, 4, 5, 6, 7, 8, 9, 10, 11, 12] [] rfl rfl (by decide) (by decide) (fun r_4 u_6 H locs h_5 hP hD hS => ?_)
  obtain ⟨rfl, h_5⟩ := h_5
  have hP : va_P G CL [] H := hP
  have hD : va_D A [] := hD
  subst h_5
  refine lv_icmp_eq (tgt := 1808) hx hb dL_law_584 (by decide) (fun _ => ?_) (fun h9 => absurd rfl h9)
  exact law_tail hx hb hr hml hX hbl hlocks hAn hbA hS (lv_sub hl [0, 3] rfl) (Nat.le_of_ble_eq_true rfl) (Nat.le_of_ble_eq_true rfl)
set_option maxHeartbeats 4000000 in
set_option maxRecDepth 100000 in
theorem law_8 {p : Program} {l : Launch} {e : Env} {s : State} {m : MethodId} {below : List Frame} {meth : Method} {c : Code} {b : Nat} {xs : Nat → Int32} {A : Nat → Prop} {G : va_G} {cy : Nat → ClassId} {H : Heap} {locs : List Loc} {ls : Array Slot} (qx : Nat) (qt : Nat) (qk : Nat) (qp : Nat) (qs : Nat) (qa : Nat) (qr : Nat) (qtw : Nat) (qtn : Nat) (qtg : Nat) (qta : Nat) (qtr : Nat) (qtm : Nat) (qtt : Nat) (qts : Nat) (qm : Nat) (qms : Nat) (qmo : Nat) (qmz : Nat) (qmR : Nat) (qmv : Nat) (qmk : Nat) (qmb : Nat) (qmt : Nat) (qmr : Nat) (qmB : Nat) (qmO : Nat) (qmK : Nat) (qm_three : Nat) (qm_unread : Nat) (qm_tryRow : Nat) (qm_bestRow : Nat) (qm_steps : Nat) (rO : Nat → Nat) (rK : Nat → Nat) (hx : p.tables.exec = Jvm.exec) (hb : c.code = code) (hr : meth.sig.returnType = ret) (hml : c.maxLocals = 4) (hown : s.vm.findClass RL = some m.cls) (hts : ∀ w ∈ BIG, w.before #[Value.ref b] s = true) (hX : va_X b 6 xs s s.heap) (hbl : b < s.heap.size) (hlocks : meth.locks = false) (hN : KN G cy s) (hA : ∀ q : Nat, s.heap.size ≤ q → A q) (hAn : ∀ q : Nat, A q → s.heap.size ≤ q) (hbA : ¬ A b) (hP : va_P G CL [(qx, .inr (4, [.ref qt, .ref qk, .ref qp, .ref qs, .ref qa, .ref qr, .int 0, .int 0, .int 0])), (qr, .inl (cy 0, 5, .inl (fun _ => 0))), (qt, .inr (3, [.int 0, .int 0, .int 0, .int 0, .int 1, .ref qtw, .ref qtn, .ref qtg, .ref qta, .ref qtr, .ref qtm, .ref qtt, .ref qts])), (qta, .inl (cy 0, 8, .inl (fun _ => 0))), (qtr, .inl (cy 0, 8, .inl (fun _ => 0))), (qtm, .inl (cy 0, 8, .inl (fun _ => 0))), (qtt, .inl (cy 0, 8, .inl (fun _ => 0))), (qm, .inr (5, [.ref qms, .ref qmo, .ref qmz, .ref qmR, .ref qmv, .ref qmk, .ref qmb, .ref qmt, .int 0, .ref qmr, .int 0, .ref qmB, .int 0, .ref qmO, .ref qmK, .int 0, .int 0, .int 1, .null, .null, .int 0, .int 0, .int 0, .long 0, .int 0, .ref qm_three, .int 0, .int 0, .int 0, .null, .ref qm_unread, .ref qm_tryRow, .ref qm_bestRow, .ref qm_steps, .int 0])), (qmO, .inl (cy 3, 8, .inr (.inr (.inr (.inr (fun i => if i < 8 then some (rO i) else none)))))), (rO 0, .inl (cy 0, 5, .inl (fun _ => 0))), (qmK, .inl (cy 3, 8, .inr (.inr (.inr (.inr (fun i => if i < 8 then some (rK i) else none)))))), (rK 0, .inl (cy 0, 8, .inl (fun _ => 0))), (qmr, .inl (cy 0, 8, .inl (fun _ => 0)))] H) (hD : va_D A [(qx, .inr (4, [.ref qt, .ref qk, .ref qp, .ref qs, .ref qa, .ref qr, .int 0, .int 0, .int 0])), (qr, .inl (cy 0, 5, .inl (fun _ => 0))), (qt, .inr (3, [.int 0, .int 0, .int 0, .int 0, .int 1, .ref qtw, .ref qtn, .ref qtg, .ref qta, .ref qtr, .ref qtm, .ref qtt, .ref qts])), (qta, .inl (cy 0, 8, .inl (fun _ => 0))), (qtr, .inl (cy 0, 8, .inl (fun _ => 0))), (qtm, .inl (cy 0, 8, .inl (fun _ => 0))), (qtt, .inl (cy 0, 8, .inl (fun _ => 0))), (qm, .inr (5, [.ref qms, .ref qmo, .ref qmz, .ref qmR, .ref qmv, .ref qmk, .ref qmb, .ref qmt, .int 0, .ref qmr, .int 0, .ref qmB, .int 0, .ref qmO, .ref qmK, .int 0, .int 0, .int 1, .null, .null, .int 0, .int 0, .int 0, .long 0, .int 0, .ref qm_three, .int 0, .int 0, .int 0, .null, .ref qm_unread, .ref qm_tryRow, .ref qm_bestRow, .ref qm_steps, .int 0])), (qmO, .inl (cy 3, 8, .inr (.inr (.inr (.inr (fun i => if i < 8 then some (rO i) else none)))))), (rO 0, .inl (cy 0, 5, .inl (fun _ => 0))), (qmK, .inl (cy 3, 8, .inr (.inr (.inr (.inr (fun i => if i < 8 then some (rK i) else none)))))), (rK 0, .inl (cy 0, 8, .inl (fun _ => 0))), (qmr, .inl (cy 0, 8, .inl (fun _ => 0)))]) (hS : va_S A s.heap H locs) (hl : lv_has ls 4 [(3, .int 0), (2, .ref qm), (1, .ref qx), (0, .ref b)]) : W p l e room_1 s m #[Value.ref b] below meth c H locs 105 2176 (lw_Z below #[Value.ref b] s) (F0 m 589 ls []) := by
  have hK := hN.1
  refine lv_aload_n hx hb dL_law_589 rfl (lv_at hl 2 rfl) ?_
  refine lv_aload_n hx hb dL_law_590 rfl (lv_at hl 3 rfl) ?_
  refine lv_iload_n hx hb dL_law_591 rfl (lv_at hl 0 rfl) ?_
  refine lv_iconst (v := 1) hx hb dL_law_592 (by decide) ?_
  refine lv_iadd hx hb dL_law_593 ?_
  refine lv_seti (v := 1) (by decide) ?_
  refine va_sld hx hb hX hbl hbA hS (in_c rfl) dL_law_594 ?_
  refine lv_seti (v := xs 1) (congrArg xs (by decide)) ?_
  refine lv_aload_n hx hb dL_law_595 rfl (lv_at hl 3 rfl) ?_
  refine lv_iload_n hx hb dL_law_596 rfl (lv_at hl 0 rfl) ?_
  refine lv_iconst (v := 2) hx hb dL_law_597 (by decide) ?_
  refine lv_iadd hx hb dL_law_598 ?_
  refine lv_seti (v := 2) (by decide) ?_
  refine va_sld hx hb hX hbl hbA hS (in_c rfl) dL_law_599 ?_
  refine lv_seti (v := xs 2) (congrArg xs (by decide)) ?_
  refine lv_aload_n hx hb dL_law_600 rfl (lv_at hl 3 rfl) ?_
  refine lv_iload_n hx hb dL_law_601 rfl (lv_at hl 0 rfl) ?_
  refine lv_iconst (v := 3) hx hb dL_law_602 (by decide) ?_
  refine lv_iadd hx hb dL_law_603 ?_
  refine lv_seti (v := 3) (by decide) ?_
  refine va_sld hx hb hX hbl hbA hS (in_c rfl) dL_law_604 ?_
  refine lv_seti (v := xs 3) (congrArg xs (by decide)) ?_
  refine lv_aload_n hx hb dL_law_605 rfl (lv_at hl 3 rfl) ?_
  refine lv_iload_n hx hb dL_law_606 rfl (lv_at hl 0 rfl) ?_
  refine lv_iconst (v := 4) hx hb dL_law_607 (by decide) ?_
  refine lv_iadd hx hb dL_law_608 ?_
  refine lv_seti (v := 4) (by decide) ?_
  refine va_sld hx hb hX hbl hbA hS (in_c rfl) dL_law_609 ?_
  refine lv_seti (v := xs 4) (congrArg xs (by decide)) ?_
  refine kWi (wr := [(qm, .inr (5, [.ref qms, .ref qmo, .ref qmz, .ref qmR, .ref qmv, .ref qmk, .ref qmb, .ref qmt, .int 0, .ref qmr, .int 0, .ref qmB, .int 0, .ref qmO, .ref qmK, .int 0, .int 0, .int 1, .null, .null, .int 0, .int 0, .int 0, .long 0, .int 0, .ref qm_three, .int 0, .int 0, .int 0, .null, .ref qm_unread, .ref qm_tryRow, .ref qm_bestRow, .ref qm_steps, .int 0])), (qmO, .inl (cy 3, 8, .inr (.inr (.inr (.inr (fun i => if i < 8 then some (rO i) else none)))))), (rO 0, .inl (cy 0, 5, .inl (fun _ => 0))), (qmK, .inl (cy 3, 8, .inr (.inr (.inr (.inr (fun i => if i < 8 then some (rK i) else none)))))), (rK 0, .inl (cy 0, 8, .inl (fun _ => 0))), (qmr, .inl (cy 0, 8, .inl (fun _ => 0)))]) (rV (As := [.int (xs 1), .int (xs 2), .int (xs 3), .int (xs 4)]) (rest := []) (b := qx) ⟨hx, hb, hml, hown, hts⟩ (p_X5_one l G cy (H).size qx qt qk qp qs qa qr qtw qtn qtg qta qtr qtm qtt qts (xs 1) (xs 2) (xs 3) (xs 4)) L_L_53 (preWV (q := (RX5, TX5, 9)) hN hP hD [0, 1, 2, 3, 4, 5, 6] rfl (by decide) 0 4 rfl rfl) rfl ⟨Nat.le_of_ble_eq_true rfl, Nat.le_of_ble_eq_true rfl⟩ hl.1 (Nat.le_of_ble_eq_true rfl) dL_law_610 ⟨Nat.le_of_ble_eq_true rfl, Nat.le_of_ble_eq_true rfl⟩) hP hD hS hA [0, 1, 2, 3, 4, 5, 6] [7, 8, 9, 10, 11, 12] rfl rfl (by decide) (by decide) (fun r_1 u_3 H locs h_2 hP hD hS => ?_)
  obtain ⟨rfl, h_2⟩ := h_2
  have hP : va_P G CL [(qm, .inr (5, [.ref qms, .ref qmo, .ref qmz, .ref qmR, .ref qmv, .ref qmk, .ref qmb, .ref qmt, .int 0, .ref qmr, .int 0, .ref qmB, .int 0, .ref qmO, .ref qmK, .int 0, .int 0, .int 1, .null, .null, .int 0, .int 0, .int 0, .long 0, .int 0, .ref qm_three, .int 0, .int 0, .int 0, .null, .ref qm_unread, .ref qm_tryRow, .ref qm_bestRow, .ref qm_steps, .int 0])), (qmO, .inl (cy 3, 8, .inr (.inr (.inr (.inr (fun i => if i < 8 then some (rO i) else none)))))), (rO 0, .inl (cy 0, 5, .inl (fun _ => 0))), (qmK, .inl (cy 3, 8, .inr (.inr (.inr (.inr (fun i => if i < 8 then some (rK i) else none)))))), (rK 0, .inl (cy 0, 8, .inl (fun _ => 0))), (qmr, .inl (cy 0, 8, .inl (fun _ => 0)))] H := hP
  have hD : va_D A [(qm, .inr (5, [.ref qms, .ref qmo, .ref qmz, .ref qmR, .ref qmv, .ref qmk, .ref qmb, .ref qmt, .int 0, .ref qmr, .int 0, .ref qmB, .int 0, .ref qmO, .ref qmK, .int 0, .int 0, .int 1, .null, .null, .int 0, .int 0, .int 0, .long 0, .int 0, .ref qm_three, .int 0, .int 0, .int 0, .null, .ref qm_unread, .ref qm_tryRow, .ref qm_bestRow, .ref qm_steps, .int 0])), (qmO, .inl (cy 3, 8, .inr (.inr (.inr (.inr (fun i => if i < 8 then some (rO i) else none)))))), (rO 0, .inl (cy 0, 5, .inl (fun _ => 0))), (qmK, .inl (cy 3, 8, .inr (.inr (.inr (.inr (fun i => if i < 8 then some (rK i) else none)))))), (rK 0, .inl (cy 0, 8, .inl (fun _ => 0))), (qmr, .inl (cy 0, 8, .inl (fun _ => 0)))] := hD
  subst h_2
  refine lv_aload_n hx hb dL_law_613 rfl (lv_at hl 1 rfl) ?_
  refine lv_aload_n hx hb dL_law_614 rfl (lv_at hl 3 rfl) ?_
  refine lv_iload_n hx hb dL_law_615 rfl (lv_at hl 0 rfl) ?_
  refine lv_iconst (v := 1) hx hb dL_law_616 (by decide) ?_
  refine lv_iadd hx hb dL_law_617 ?_
  refine lv_seti (v := 1) (by decide) ?_
  refine va_sld hx hb hX hbl hbA hS (in_c rfl) dL_law_618 ?_
  refine lv_seti (v := xs 1) (congrArg xs (by decide)) ?_
  refine lv_aload_n hx hb dL_law_619 rfl (lv_at hl 3 rfl) ?_
  refine lv_iload_n hx hb dL_law_620 rfl (lv_at hl 0 rfl) ?_
  refine lv_iconst (v := 2) hx hb dL_law_621 (by decide) ?_
  refine lv_iadd hx hb dL_law_622 ?_
  refine lv_seti (v := 2) (by decide) ?_
  refine va_sld hx hb hX hbl hbA hS (in_c rfl) dL_law_623 ?_
  refine lv_seti (v := xs 2) (congrArg xs (by decide)) ?_
  refine lv_aload_n hx hb dL_law_624 rfl (lv_at hl 3 rfl) ?_
  refine lv_iload_n hx hb dL_law_625 rfl (lv_at hl 0 rfl) ?_
  refine lv_iconst (v := 3) hx hb dL_law_626 (by decide) ?_
  refine lv_iadd hx hb dL_law_627 ?_
  refine lv_seti (v := 3) (by decide) ?_
  refine va_sld hx hb hX hbl hbA hS (in_c rfl) dL_law_628 ?_
  refine lv_seti (v := xs 3) (congrArg xs (by decide)) ?_
  refine lv_aload_n hx hb dL_law_629 rfl (lv_at hl 3 rfl) ?_
  refine lv_iload_n hx hb dL_law_630 rfl (lv_at hl 0 rfl) ?_
  refine lv_iconst (v := 4) hx hb dL_law_631 (by decide) ?_
  refine lv_iadd hx hb dL_law_632 ?_
  refine lv_seti (v := 4) (by decide) ?_
  refine va_sld hx hb hX hbl hbA hS (in_c rfl) dL_law_633 ?_
  refine lv_seti (v := xs 4) (congrArg xs (by decide)) ?_
  refine kWi (wr := []) (rV (As := [.int (xs 1), .int (xs 2), .int (xs 3), .int (xs 4)]) (rest := [.int (sp_one (xs 1) (xs 2) (xs 3) (xs 4))]) (b := qm) ⟨hx, hb, hml, hown, hts⟩ (p_X6_one l G cy (H).size qm qms qmo qmz qmR qmv qmk qmb qmt qmr qmB qmO qmK qm_three qm_unread qm_tryRow qm_bestRow qm_steps rO rK (xs 1) (xs 2) (xs 3) (xs 4)) L_L_57 (preWV (q := (RX6, TX6, 35)) hN hP hD [0, 1, 2, 3, 4, 5] rfl (by decide) 0 5 rfl rfl) rfl ⟨Nat.le_of_ble_eq_true rfl, Nat.le_of_ble_eq_true rfl⟩ hl.1 (Nat.le_of_ble_eq_true rfl) dL_law_634 ⟨Nat.le_of_ble_eq_true rfl, Nat.le_of_ble_eq_true rfl⟩) hP hD hS hA [0, 1, 2, 3, 4, 5] [] rfl rfl (by decide) (by decide) (fun r_4 u_6 H locs h_5 hP hD hS => ?_)
  obtain ⟨rfl, h_5⟩ := h_5
  have hP : va_P G CL [] H := hP
  have hD : va_D A [] := hD
  subst h_5
  refine lv_icmp_eq (tgt := 1808) hx hb dL_law_637 (by decide) (fun _ => ?_) (fun h9 => absurd rfl h9)
  exact law_tail hx hb hr hml hX hbl hlocks hAn hbA hS (lv_sub hl [0, 3] rfl) (Nat.le_of_ble_eq_true rfl) (Nat.le_of_ble_eq_true rfl)
set_option maxHeartbeats 4000000 in
set_option maxRecDepth 100000 in
theorem law_9 {p : Program} {l : Launch} {e : Env} {s : State} {m : MethodId} {below : List Frame} {meth : Method} {c : Code} {b : Nat} {xs : Nat → Int32} {A : Nat → Prop} {G : va_G} {cy : Nat → ClassId} {H : Heap} {locs : List Loc} {ls : Array Slot} (qx : Nat) (qt : Nat) (qk : Nat) (qp : Nat) (qs : Nat) (qa : Nat) (qr : Nat) (qsh : Nat) (qss : Nat) (qsa : Nat) (qse : Nat) (fH : Nat → Int32) (qm : Nat) (qms : Nat) (qmo : Nat) (qmz : Nat) (qmR : Nat) (qmv : Nat) (qmk : Nat) (qmb : Nat) (qmt : Nat) (qmr : Nat) (qmB : Nat) (qmO : Nat) (qmK : Nat) (qm_three : Nat) (qm_unread : Nat) (qm_tryRow : Nat) (qm_bestRow : Nat) (qm_steps : Nat) (hx : p.tables.exec = Jvm.exec) (hb : c.code = code) (hr : meth.sig.returnType = ret) (hml : c.maxLocals = 4) (hown : s.vm.findClass RL = some m.cls) (hts : ∀ w ∈ BIG, w.before #[Value.ref b] s = true) (hX : va_X b 6 xs s s.heap) (hbl : b < s.heap.size) (hlocks : meth.locks = false) (hN : KN G cy s) (hA : ∀ q : Nat, s.heap.size ≤ q → A q) (hAn : ∀ q : Nat, A q → s.heap.size ≤ q) (hbA : ¬ A b) (hP : va_P G CL [(qx, .inr (4, [.ref qt, .ref qk, .ref qp, .ref qs, .ref qa, .ref qr, .int 0, .int 0, .int 0])), (qr, .inl (cy 0, 5, .inl (fun _ => 0))), (qs, .inr (1, [.ref qsh, .ref qss, .ref qsa, .ref qse])), (qsh, .inl (cy 0, 8, .inl fH)), (qm, .inr (5, [.ref qms, .ref qmo, .ref qmz, .ref qmR, .ref qmv, .ref qmk, .ref qmb, .ref qmt, .int 0, .ref qmr, .int 0, .ref qmB, .int 0, .ref qmO, .ref qmK, .int 0, .int 0, .int 1, .null, .null, .int 0, .int 0, .int 0, .long 0, .int 0, .ref qm_three, .int 0, .int 0, .int 0, .null, .ref qm_unread, .ref qm_tryRow, .ref qm_bestRow, .ref qm_steps, .int 0])), (qms, .inl (cy 0, 8, .inl (fun _ => 0))), (qmr, .inl (cy 0, 8, .inl (fun _ => 0)))] H) (hD : va_D A [(qx, .inr (4, [.ref qt, .ref qk, .ref qp, .ref qs, .ref qa, .ref qr, .int 0, .int 0, .int 0])), (qr, .inl (cy 0, 5, .inl (fun _ => 0))), (qs, .inr (1, [.ref qsh, .ref qss, .ref qsa, .ref qse])), (qsh, .inl (cy 0, 8, .inl fH)), (qm, .inr (5, [.ref qms, .ref qmo, .ref qmz, .ref qmR, .ref qmv, .ref qmk, .ref qmb, .ref qmt, .int 0, .ref qmr, .int 0, .ref qmB, .int 0, .ref qmO, .ref qmK, .int 0, .int 0, .int 1, .null, .null, .int 0, .int 0, .int 0, .long 0, .int 0, .ref qm_three, .int 0, .int 0, .int 0, .null, .ref qm_unread, .ref qm_tryRow, .ref qm_bestRow, .ref qm_steps, .int 0])), (qms, .inl (cy 0, 8, .inl (fun _ => 0))), (qmr, .inl (cy 0, 8, .inl (fun _ => 0)))]) (hS : va_S A s.heap H locs) (hl : lv_has ls 4 [(3, .int 0), (2, .ref qm), (1, .ref qx), (0, .ref b)]) (hH : ∀ i, i < 8 → fH i = -1) : W p l e room_1 s m #[Value.ref b] below meth c H locs 105 2176 (lw_Z below #[Value.ref b] s) (F0 m 642 ls []) := by
  have hK := hN.1
  refine lv_aload_n hx hb dL_law_642 rfl (lv_at hl 2 rfl) ?_
  refine lv_aload_n hx hb dL_law_643 rfl (lv_at hl 3 rfl) ?_
  refine lv_iload_n hx hb dL_law_644 rfl (lv_at hl 0 rfl) ?_
  refine lv_iconst (v := 1) hx hb dL_law_645 (by decide) ?_
  refine lv_iadd hx hb dL_law_646 ?_
  refine lv_seti (v := 1) (by decide) ?_
  refine va_sld hx hb hX hbl hbA hS (in_c rfl) dL_law_647 ?_
  refine lv_seti (v := xs 1) (congrArg xs (by decide)) ?_
  refine lv_aload_n hx hb dL_law_648 rfl (lv_at hl 3 rfl) ?_
  refine lv_iload_n hx hb dL_law_649 rfl (lv_at hl 0 rfl) ?_
  refine lv_iconst (v := 2) hx hb dL_law_650 (by decide) ?_
  refine lv_iadd hx hb dL_law_651 ?_
  refine lv_seti (v := 2) (by decide) ?_
  refine va_sld hx hb hX hbl hbA hS (in_c rfl) dL_law_652 ?_
  refine lv_seti (v := xs 2) (congrArg xs (by decide)) ?_
  refine kWi (wr := [(qm, .inr (5, [.ref qms, .ref qmo, .ref qmz, .ref qmR, .ref qmv, .ref qmk, .ref qmb, .ref qmt, .int 0, .ref qmr, .int 0, .ref qmB, .int 0, .ref qmO, .ref qmK, .int 0, .int 0, .int 1, .null, .null, .int 0, .int 0, .int 0, .long 0, .int 0, .ref qm_three, .int 0, .int 0, .int 0, .null, .ref qm_unread, .ref qm_tryRow, .ref qm_bestRow, .ref qm_steps, .int 0])), (qms, .inl (cy 0, 8, .inl (fun _ => 0))), (qmr, .inl (cy 0, 8, .inl (fun _ => 0)))]) (rV (As := [.int (xs 1), .int (xs 2)]) (rest := []) (b := qx) ⟨hx, hb, hml, hown, hts⟩ (p_X5_ones l G cy (H).size qx qt qk qp qs qa qr qsh qss qsa qse fH (xs 1) (xs 2) hH) L_L_58 (preWV (q := (RX5, TX5, 9)) hN hP hD [0, 1, 2, 3] rfl (by decide) 0 4 rfl rfl) rfl ⟨Nat.le_of_ble_eq_true rfl, Nat.le_of_ble_eq_true rfl⟩ hl.1 (Nat.le_of_ble_eq_true rfl) dL_law_653 ⟨Nat.le_of_ble_eq_true rfl, Nat.le_of_ble_eq_true rfl⟩) hP hD hS hA [0, 1, 2, 3] [4, 5, 6] rfl rfl (by decide) (by decide) (fun r_1 u_3 H locs h_2 hP hD hS => ?_)
  obtain ⟨rfl, h_2⟩ := h_2
  have hP : va_P G CL [(qm, .inr (5, [.ref qms, .ref qmo, .ref qmz, .ref qmR, .ref qmv, .ref qmk, .ref qmb, .ref qmt, .int 0, .ref qmr, .int 0, .ref qmB, .int 0, .ref qmO, .ref qmK, .int 0, .int 0, .int 1, .null, .null, .int 0, .int 0, .int 0, .long 0, .int 0, .ref qm_three, .int 0, .int 0, .int 0, .null, .ref qm_unread, .ref qm_tryRow, .ref qm_bestRow, .ref qm_steps, .int 0])), (qms, .inl (cy 0, 8, .inl (fun _ => 0))), (qmr, .inl (cy 0, 8, .inl (fun _ => 0)))] H := hP
  have hD : va_D A [(qm, .inr (5, [.ref qms, .ref qmo, .ref qmz, .ref qmR, .ref qmv, .ref qmk, .ref qmb, .ref qmt, .int 0, .ref qmr, .int 0, .ref qmB, .int 0, .ref qmO, .ref qmK, .int 0, .int 0, .int 1, .null, .null, .int 0, .int 0, .int 0, .long 0, .int 0, .ref qm_three, .int 0, .int 0, .int 0, .null, .ref qm_unread, .ref qm_tryRow, .ref qm_bestRow, .ref qm_steps, .int 0])), (qms, .inl (cy 0, 8, .inl (fun _ => 0))), (qmr, .inl (cy 0, 8, .inl (fun _ => 0)))] := hD
  subst h_2
  refine lv_aload_n hx hb dL_law_656 rfl (lv_at hl 1 rfl) ?_
  refine lv_aload_n hx hb dL_law_657 rfl (lv_at hl 3 rfl) ?_
  refine lv_iload_n hx hb dL_law_658 rfl (lv_at hl 0 rfl) ?_
  refine lv_iconst (v := 1) hx hb dL_law_659 (by decide) ?_
  refine lv_iadd hx hb dL_law_660 ?_
  refine lv_seti (v := 1) (by decide) ?_
  refine va_sld hx hb hX hbl hbA hS (in_c rfl) dL_law_661 ?_
  refine lv_seti (v := xs 1) (congrArg xs (by decide)) ?_
  refine lv_aload_n hx hb dL_law_662 rfl (lv_at hl 3 rfl) ?_
  refine lv_iload_n hx hb dL_law_663 rfl (lv_at hl 0 rfl) ?_
  refine lv_iconst (v := 2) hx hb dL_law_664 (by decide) ?_
  refine lv_iadd hx hb dL_law_665 ?_
  refine lv_seti (v := 2) (by decide) ?_
  refine va_sld hx hb hX hbl hbA hS (in_c rfl) dL_law_666 ?_
  refine lv_seti (v := xs 2) (congrArg xs (by decide)) ?_
  refine kWi (wr := []) (rV (As := [.int (xs 1), .int (xs 2)]) (rest := [.int (sp_shelf (xs 1))]) (b := qm) ⟨hx, hb, hml, hown, hts⟩ (p_X6_ones l G cy (H).size qm qms qmo qmz qmR qmv qmk qmb qmt qmr qmB qmO qmK qm_three qm_unread qm_tryRow qm_bestRow qm_steps (xs 1) (xs 2)) L_L_61 (preWV (q := (RX6, TX6, 35)) hN hP hD [0, 1, 2] rfl (by decide) 0 5 rfl rfl) rfl ⟨Nat.le_of_ble_eq_true rfl, Nat.le_of_ble_eq_true rfl⟩ hl.1 (Nat.le_of_ble_eq_true rfl) dL_law_667 ⟨Nat.le_of_ble_eq_true rfl, Nat.le_of_ble_eq_true rfl⟩) hP hD hS hA [0, 1, 2] [] rfl rfl (by decide) (by decide) (fun r_4 u_6 H locs h_5 hP hD hS => ?_)
  obtain ⟨rfl, h_5⟩ := h_5
  have hP : va_P G CL [] H := hP
  have hD : va_D A [] := hD
  subst h_5
  refine lv_icmp_eq (tgt := 1808) hx hb dL_law_670 (by decide) (fun _ => ?_) (fun h9 => absurd rfl h9)
  exact law_tail hx hb hr hml hX hbl hlocks hAn hbA hS (lv_sub hl [0, 3] rfl) (Nat.le_of_ble_eq_true rfl) (Nat.le_of_ble_eq_true rfl)
set_option maxHeartbeats 4000000 in
set_option maxRecDepth 100000 in
theorem law_10 {p : Program} {l : Launch} {e : Env} {s : State} {m : MethodId} {below : List Frame} {meth : Method} {c : Code} {b : Nat} {xs : Nat → Int32} {A : Nat → Prop} {G : va_G} {cy : Nat → ClassId} {H : Heap} {locs : List Loc} {ls : Array Slot} (qx : Nat) (qt : Nat) (qk : Nat) (qp : Nat) (qs : Nat) (qa : Nat) (qr : Nat) (qab : Nat) (qd : Nat) (qm : Nat) (qms : Nat) (qmo : Nat) (qmz : Nat) (qmR : Nat) (qmv : Nat) (qmk : Nat) (qmb : Nat) (qmt : Nat) (qmr : Nat) (qmB : Nat) (qmO : Nat) (qmK : Nat) (qm_three : Nat) (qm_unread : Nat) (qm_tryRow : Nat) (qm_bestRow : Nat) (qm_steps : Nat) (hx : p.tables.exec = Jvm.exec) (hb : c.code = code) (hr : meth.sig.returnType = ret) (hml : c.maxLocals = 4) (hown : s.vm.findClass RL = some m.cls) (hts : ∀ w ∈ BIG, w.before #[Value.ref b] s = true) (hX : va_X b 6 xs s s.heap) (hbl : b < s.heap.size) (hlocks : meth.locks = false) (hN : KN G cy s) (hA : ∀ q : Nat, s.heap.size ≤ q → A q) (hAn : ∀ q : Nat, A q → s.heap.size ≤ q) (hbA : ¬ A b) (hP : va_P G CL [(qx, .inr (4, [.ref qt, .ref qk, .ref qp, .ref qs, .ref qa, .ref qr, .int 0, .int 0, .int 0])), (qr, .inl (cy 0, 5, .inl (fun _ => 0))), (qa, .inr (2, [.ref qab, .int 0, .int 0, .int 0, .int 0, .int 0, .ref qd])), (qab, .inl (cy 2, 250, .inl (fun _ => 0))), (qm, .inr (5, [.ref qms, .ref qmo, .ref qmz, .ref qmR, .ref qmv, .ref qmk, .ref qmb, .ref qmt, .int 0, .ref qmr, .int 0, .ref qmB, .int 0, .ref qmO, .ref qmK, .int 0, .int 0, .int 1, .null, .null, .int 0, .int 0, .int 0, .long 0, .int 0, .ref qm_three, .int 0, .int 0, .int 0, .null, .ref qm_unread, .ref qm_tryRow, .ref qm_bestRow, .ref qm_steps, .int 0])), (qmt, .inl (cy 0, 250, .inl (fun _ => 0))), (qmr, .inl (cy 0, 8, .inl (fun _ => 0)))] H) (hD : va_D A [(qx, .inr (4, [.ref qt, .ref qk, .ref qp, .ref qs, .ref qa, .ref qr, .int 0, .int 0, .int 0])), (qr, .inl (cy 0, 5, .inl (fun _ => 0))), (qa, .inr (2, [.ref qab, .int 0, .int 0, .int 0, .int 0, .int 0, .ref qd])), (qab, .inl (cy 2, 250, .inl (fun _ => 0))), (qm, .inr (5, [.ref qms, .ref qmo, .ref qmz, .ref qmR, .ref qmv, .ref qmk, .ref qmb, .ref qmt, .int 0, .ref qmr, .int 0, .ref qmB, .int 0, .ref qmO, .ref qmK, .int 0, .int 0, .int 1, .null, .null, .int 0, .int 0, .int 0, .long 0, .int 0, .ref qm_three, .int 0, .int 0, .int 0, .null, .ref qm_unread, .ref qm_tryRow, .ref qm_bestRow, .ref qm_steps, .int 0])), (qmt, .inl (cy 0, 250, .inl (fun _ => 0))), (qmr, .inl (cy 0, 8, .inl (fun _ => 0)))]) (hS : va_S A s.heap H locs) (hl : lv_has ls 4 [(3, .int 0), (2, .ref qm), (1, .ref qx), (0, .ref b)]) : W p l e room_1 s m #[Value.ref b] below meth c H locs 105 2176 (lw_Z below #[Value.ref b] s) (F0 m 675 ls []) := by
  have hK := hN.1
  refine lv_aload_n hx hb dL_law_675 rfl (lv_at hl 2 rfl) ?_
  refine lv_aload_n hx hb dL_law_676 rfl (lv_at hl 3 rfl) ?_
  refine lv_iload_n hx hb dL_law_677 rfl (lv_at hl 0 rfl) ?_
  refine lv_iconst (v := 1) hx hb dL_law_678 (by decide) ?_
  refine lv_iadd hx hb dL_law_679 ?_
  refine lv_seti (v := 1) (by decide) ?_
  refine va_sld hx hb hX hbl hbA hS (in_c rfl) dL_law_680 ?_
  refine lv_seti (v := xs 1) (congrArg xs (by decide)) ?_
  refine lv_aload_n hx hb dL_law_681 rfl (lv_at hl 3 rfl) ?_
  refine lv_iload_n hx hb dL_law_682 rfl (lv_at hl 0 rfl) ?_
  refine lv_iconst (v := 2) hx hb dL_law_683 (by decide) ?_
  refine lv_iadd hx hb dL_law_684 ?_
  refine lv_seti (v := 2) (by decide) ?_
  refine va_sld hx hb hX hbl hbA hS (in_c rfl) dL_law_685 ?_
  refine lv_seti (v := xs 2) (congrArg xs (by decide)) ?_
  refine kWi (wr := [(qm, .inr (5, [.ref qms, .ref qmo, .ref qmz, .ref qmR, .ref qmv, .ref qmk, .ref qmb, .ref qmt, .int 0, .ref qmr, .int 0, .ref qmB, .int 0, .ref qmO, .ref qmK, .int 0, .int 0, .int 1, .null, .null, .int 0, .int 0, .int 0, .long 0, .int 0, .ref qm_three, .int 0, .int 0, .int 0, .null, .ref qm_unread, .ref qm_tryRow, .ref qm_bestRow, .ref qm_steps, .int 0])), (qmt, .inl (cy 0, 250, .inl (fun _ => 0))), (qmr, .inl (cy 0, 8, .inl (fun _ => 0)))]) (rV (As := [.int (xs 1), .int (xs 2)]) (rest := []) (b := qx) ⟨hx, hb, hml, hown, hts⟩ (p_X5_feed l G cy (H).size qx qt qk qp qs qa qr qab qd (xs 1) (xs 2)) L_L_62 (preWV (q := (RX5, TX5, 9)) hN hP hD [0, 1, 2, 3] rfl (by decide) 0 4 rfl rfl) rfl ⟨Nat.le_of_ble_eq_true rfl, Nat.le_of_ble_eq_true rfl⟩ hl.1 (Nat.le_of_ble_eq_true rfl) dL_law_686 ⟨Nat.le_of_ble_eq_true rfl, Nat.le_of_ble_eq_true rfl⟩) hP hD hS hA [0, 1, 2, 3] [4, 5, 6] rfl rfl (by decide) (by decide) (fun r_1 u_3 H locs h_2 hP hD hS => ?_)
  obtain ⟨rfl, h_2⟩ := h_2
  have hP : va_P G CL [(qm, .inr (5, [.ref qms, .ref qmo, .ref qmz, .ref qmR, .ref qmv, .ref qmk, .ref qmb, .ref qmt, .int 0, .ref qmr, .int 0, .ref qmB, .int 0, .ref qmO, .ref qmK, .int 0, .int 0, .int 1, .null, .null, .int 0, .int 0, .int 0, .long 0, .int 0, .ref qm_three, .int 0, .int 0, .int 0, .null, .ref qm_unread, .ref qm_tryRow, .ref qm_bestRow, .ref qm_steps, .int 0])), (qmt, .inl (cy 0, 250, .inl (fun _ => 0))), (qmr, .inl (cy 0, 8, .inl (fun _ => 0)))] H := hP
  have hD : va_D A [(qm, .inr (5, [.ref qms, .ref qmo, .ref qmz, .ref qmR, .ref qmv, .ref qmk, .ref qmb, .ref qmt, .int 0, .ref qmr, .int 0, .ref qmB, .int 0, .ref qmO, .ref qmK, .int 0, .int 0, .int 1, .null, .null, .int 0, .int 0, .int 0, .long 0, .int 0, .ref qm_three, .int 0, .int 0, .int 0, .null, .ref qm_unread, .ref qm_tryRow, .ref qm_bestRow, .ref qm_steps, .int 0])), (qmt, .inl (cy 0, 250, .inl (fun _ => 0))), (qmr, .inl (cy 0, 8, .inl (fun _ => 0)))] := hD
  subst h_2
  refine lv_aload_n hx hb dL_law_689 rfl (lv_at hl 1 rfl) ?_
  refine lv_aload_n hx hb dL_law_690 rfl (lv_at hl 3 rfl) ?_
  refine lv_iload_n hx hb dL_law_691 rfl (lv_at hl 0 rfl) ?_
  refine lv_iconst (v := 1) hx hb dL_law_692 (by decide) ?_
  refine lv_iadd hx hb dL_law_693 ?_
  refine lv_seti (v := 1) (by decide) ?_
  refine va_sld hx hb hX hbl hbA hS (in_c rfl) dL_law_694 ?_
  refine lv_seti (v := xs 1) (congrArg xs (by decide)) ?_
  refine lv_aload_n hx hb dL_law_695 rfl (lv_at hl 3 rfl) ?_
  refine lv_iload_n hx hb dL_law_696 rfl (lv_at hl 0 rfl) ?_
  refine lv_iconst (v := 2) hx hb dL_law_697 (by decide) ?_
  refine lv_iadd hx hb dL_law_698 ?_
  refine lv_seti (v := 2) (by decide) ?_
  refine va_sld hx hb hX hbl hbA hS (in_c rfl) dL_law_699 ?_
  refine lv_seti (v := xs 2) (congrArg xs (by decide)) ?_
  refine kWi (wr := []) (rV (As := [.int (xs 1), .int (xs 2)]) (rest := [.int (sp_feed (xs 2))]) (b := qm) ⟨hx, hb, hml, hown, hts⟩ (p_X6_feed l G cy (H).size qm qms qmo qmz qmR qmv qmk qmb qmt qmr qmB qmO qmK qm_three qm_unread qm_tryRow qm_bestRow qm_steps (xs 1) (xs 2)) L_L_65 (preWV (q := (RX6, TX6, 35)) hN hP hD [0, 1, 2] rfl (by decide) 0 5 rfl rfl) rfl ⟨Nat.le_of_ble_eq_true rfl, Nat.le_of_ble_eq_true rfl⟩ hl.1 (Nat.le_of_ble_eq_true rfl) dL_law_700 ⟨Nat.le_of_ble_eq_true rfl, Nat.le_of_ble_eq_true rfl⟩) hP hD hS hA [0, 1, 2] [] rfl rfl (by decide) (by decide) (fun r_4 u_6 H locs h_5 hP hD hS => ?_)
  obtain ⟨rfl, h_5⟩ := h_5
  have hP : va_P G CL [] H := hP
  have hD : va_D A [] := hD
  subst h_5
  refine lv_icmp_eq (tgt := 1808) hx hb dL_law_703 (by decide) (fun _ => ?_) (fun h9 => absurd rfl h9)
  exact law_tail hx hb hr hml hX hbl hlocks hAn hbA hS (lv_sub hl [0, 3] rfl) (Nat.le_of_ble_eq_true rfl) (Nat.le_of_ble_eq_true rfl)
set_option maxHeartbeats 4000000 in
set_option maxRecDepth 100000 in
theorem law_11 {p : Program} {l : Launch} {e : Env} {s : State} {m : MethodId} {below : List Frame} {meth : Method} {c : Code} {b : Nat} {xs : Nat → Int32} {A : Nat → Prop} {G : va_G} {cy : Nat → ClassId} {H : Heap} {locs : List Loc} {ls : Array Slot} (qx : Nat) (qt : Nat) (qk : Nat) (qp : Nat) (qs : Nat) (qa : Nat) (qr : Nat) (qab : Nat) (qd : Nat) (qm : Nat) (qms : Nat) (qmo : Nat) (qmz : Nat) (qmR : Nat) (qmv : Nat) (qmk : Nat) (qmb : Nat) (qmt : Nat) (qmr : Nat) (qmB : Nat) (qmO : Nat) (qmK : Nat) (qm_three : Nat) (qm_unread : Nat) (qm_tryRow : Nat) (qm_bestRow : Nat) (qm_steps : Nat) (hx : p.tables.exec = Jvm.exec) (hb : c.code = code) (hr : meth.sig.returnType = ret) (hml : c.maxLocals = 4) (hown : s.vm.findClass RL = some m.cls) (hts : ∀ w ∈ BIG, w.before #[Value.ref b] s = true) (hX : va_X b 6 xs s s.heap) (hbl : b < s.heap.size) (hlocks : meth.locks = false) (hN : KN G cy s) (hA : ∀ q : Nat, s.heap.size ≤ q → A q) (hAn : ∀ q : Nat, A q → s.heap.size ≤ q) (hbA : ¬ A b) (hP : va_P G CL [(qx, .inr (4, [.ref qt, .ref qk, .ref qp, .ref qs, .ref qa, .ref qr, .int 0, .int 0, .int 0])), (qa, .inr (2, [.ref qab, .int 0, .int 0, .int 0, .int 0, .int 0, .ref qd])), (qm, .inr (5, [.ref qms, .ref qmo, .ref qmz, .ref qmR, .ref qmv, .ref qmk, .ref qmb, .ref qmt, .int 0, .ref qmr, .int 0, .ref qmB, .int 0, .ref qmO, .ref qmK, .int 0, .int 0, .int 1, .null, .null, .int 0, .int 0, .int 0, .long 0, .int 0, .ref qm_three, .int 0, .int 0, .int 0, .null, .ref qm_unread, .ref qm_tryRow, .ref qm_bestRow, .ref qm_steps, .int 0]))] H) (hD : va_D A [(qx, .inr (4, [.ref qt, .ref qk, .ref qp, .ref qs, .ref qa, .ref qr, .int 0, .int 0, .int 0])), (qa, .inr (2, [.ref qab, .int 0, .int 0, .int 0, .int 0, .int 0, .ref qd])), (qm, .inr (5, [.ref qms, .ref qmo, .ref qmz, .ref qmR, .ref qmv, .ref qmk, .ref qmb, .ref qmt, .int 0, .ref qmr, .int 0, .ref qmB, .int 0, .ref qmO, .ref qmK, .int 0, .int 0, .int 1, .null, .null, .int 0, .int 0, .int 0, .long 0, .int 0, .ref qm_three, .int 0, .int 0, .int 0, .null, .ref qm_unread, .ref qm_tryRow, .ref qm_bestRow, .ref qm_steps, .int 0]))]) (hS : va_S A s.heap H locs) (hl : lv_has ls 4 [(3, .int 0), (2, .ref qm), (1, .ref qx), (0, .ref b)]) : W p l e room_1 s m #[Value.ref b] below meth c H locs 105 2176 (lw_Z below #[Value.ref b] s) (F0 m 708 ls []) := by
  have hK := hN.1
  refine lv_aload_n hx hb dL_law_708 rfl (lv_at hl 2 rfl) ?_
  refine kWi (wr := [(qm, .inr (5, [.ref qms, .ref qmo, .ref qmz, .ref qmR, .ref qmv, .ref qmk, .ref qmb, .ref qmt, .int 0, .ref qmr, .int 0, .ref qmB, .int 0, .ref qmO, .ref qmK, .int 0, .int 0, .int 1, .null, .null, .int 0, .int 0, .int 0, .long 0, .int 0, .ref qm_three, .int 0, .int 0, .int 0, .null, .ref qm_unread, .ref qm_tryRow, .ref qm_bestRow, .ref qm_steps, .int 0]))]) (rV (As := []) (rest := []) (b := qx) ⟨hx, hb, hml, hown, hts⟩ (p_X5_wipe l G cy (H).size qx qt qk qp qs qa qr qab qd) L_L_66 (preWV (q := (RX5, TX5, 9)) hN hP hD [0, 1] rfl (by decide) 0 4 rfl rfl) rfl ⟨Nat.le_of_ble_eq_true rfl, Nat.le_of_ble_eq_true rfl⟩ hl.1 (Nat.le_of_ble_eq_true rfl) dL_law_709 ⟨Nat.le_of_ble_eq_true rfl, Nat.le_of_ble_eq_true rfl⟩) hP hD hS hA [0, 1] [2] rfl rfl (by decide) (by decide) (fun r_1 u_3 H locs h_2 hP hD hS => ?_)
  obtain ⟨rfl, h_2⟩ := h_2
  have hP : va_P G CL [(qm, .inr (5, [.ref qms, .ref qmo, .ref qmz, .ref qmR, .ref qmv, .ref qmk, .ref qmb, .ref qmt, .int 0, .ref qmr, .int 0, .ref qmB, .int 0, .ref qmO, .ref qmK, .int 0, .int 0, .int 1, .null, .null, .int 0, .int 0, .int 0, .long 0, .int 0, .ref qm_three, .int 0, .int 0, .int 0, .null, .ref qm_unread, .ref qm_tryRow, .ref qm_bestRow, .ref qm_steps, .int 0]))] H := hP
  have hD : va_D A [(qm, .inr (5, [.ref qms, .ref qmo, .ref qmz, .ref qmR, .ref qmv, .ref qmk, .ref qmb, .ref qmt, .int 0, .ref qmr, .int 0, .ref qmB, .int 0, .ref qmO, .ref qmK, .int 0, .int 0, .int 1, .null, .null, .int 0, .int 0, .int 0, .long 0, .int 0, .ref qm_three, .int 0, .int 0, .int 0, .null, .ref qm_unread, .ref qm_tryRow, .ref qm_bestRow, .ref qm_steps, .int 0]))] := hD
  subst h_2
  refine lv_aload_n hx hb dL_law_712 rfl (lv_at hl 1 rfl) ?_
  refine kWi (wr := []) (rV (As := []) (rest := [.int 0]) (b := qm) ⟨hx, hb, hml, hown, hts⟩ (p_X6_wipe l G cy (H).size qm qms qmo qmz qmR qmv qmk qmb qmt qmr qmB qmO qmK qm_three qm_unread qm_tryRow qm_bestRow qm_steps) L_L_70 (preWV (q := (RX6, TX6, 35)) hN hP hD [0] rfl (by decide) 0 5 rfl rfl) rfl ⟨Nat.le_of_ble_eq_true rfl, Nat.le_of_ble_eq_true rfl⟩ hl.1 (Nat.le_of_ble_eq_true rfl) dL_law_713 ⟨Nat.le_of_ble_eq_true rfl, Nat.le_of_ble_eq_true rfl⟩) hP hD hS hA [0] [] rfl rfl (by decide) (by decide) (fun r_4 u_6 H locs h_5 hP hD hS => ?_)
  obtain ⟨rfl, h_5⟩ := h_5
  have hP : va_P G CL [] H := hP
  have hD : va_D A [] := hD
  subst h_5
  refine lv_icmp_eq (tgt := 1808) hx hb dL_law_716 (by decide) (fun _ => ?_) (fun h9 => absurd (by decide) h9)
  exact law_tail hx hb hr hml hX hbl hlocks hAn hbA hS (lv_sub hl [0, 3] rfl) (Nat.le_of_ble_eq_true rfl) (Nat.le_of_ble_eq_true rfl)
set_option maxHeartbeats 4000000 in
set_option maxRecDepth 100000 in
theorem law_12 {p : Program} {l : Launch} {e : Env} {s : State} {m : MethodId} {below : List Frame} {meth : Method} {c : Code} {b : Nat} {xs : Nat → Int32} {A : Nat → Prop} {G : va_G} {cy : Nat → ClassId} {H : Heap} {locs : List Loc} {ls : Array Slot} (qx : Nat) (qt : Nat) (qk : Nat) (qp : Nat) (qs : Nat) (qa : Nat) (qr : Nat) (qtw : Nat) (qtn : Nat) (qtg : Nat) (qta : Nat) (qtr : Nat) (qtm : Nat) (qtt : Nat) (qts : Nat) (qab : Nat) (qd : Nat) (qdw : Nat) (qdn : Nat) (qdg : Nat) (qda : Nat) (qdr : Nat) (qdm : Nat) (qdt : Nat) (qds : Nat) (qm : Nat) (qms : Nat) (qmo : Nat) (qmz : Nat) (qmR : Nat) (qmv : Nat) (qmk : Nat) (qmb : Nat) (qmt : Nat) (qmr : Nat) (qmB : Nat) (qmO : Nat) (qmK : Nat) (qm_three : Nat) (qm_unread : Nat) (qm_tryRow : Nat) (qm_bestRow : Nat) (qm_steps : Nat) (rB : Nat → Nat) (rO : Nat → Nat) (rK : Nat → Nat) (hx : p.tables.exec = Jvm.exec) (hb : c.code = code) (hr : meth.sig.returnType = ret) (hml : c.maxLocals = 4) (hown : s.vm.findClass RL = some m.cls) (hts : ∀ w ∈ BIG, w.before #[Value.ref b] s = true) (hX : va_X b 6 xs s s.heap) (hbl : b < s.heap.size) (hlocks : meth.locks = false) (hN : KN G cy s) (hA : ∀ q : Nat, s.heap.size ≤ q → A q) (hAn : ∀ q : Nat, A q → s.heap.size ≤ q) (hbA : ¬ A b) (hP : va_P G CL [(qx, .inr (4, [.ref qt, .ref qk, .ref qp, .ref qs, .ref qa, .ref qr, .int 0, .int 0, .int 0])), (qr, .inl (cy 0, 5, .inl (fun _ => 0))), (qt, .inr (3, [.int 0, .int 0, .int 0, .int 0, .int 1, .ref qtw, .ref qtn, .ref qtg, .ref qta, .ref qtr, .ref qtm, .ref qtt, .ref qts])), (qtw, .inl (cy 0, 8, .inl (fun _ => 0))), (qtn, .inl (cy 0, 8, .inl (fun _ => 0))), (qtg, .inl (cy 0, 8, .inl (fun _ => 0))), (qta, .inl (cy 0, 8, .inl (fun _ => 0))), (qtr, .inl (cy 0, 8, .inl (fun _ => 0))), (qtm, .inl (cy 0, 8, .inl (fun _ => 0))), (qtt, .inl (cy 0, 8, .inl (fun _ => 0))), (qts, .inl (cy 0, 64, .inl (fun _ => 0))), (qa, .inr (2, [.ref qab, .int 0, .int 0, .int 0, .int 0, .int 0, .ref qd])), (qd, .inr (3, [.int 0, .int 0, .int 0, .int 0, .int 1, .ref qdw, .ref qdn, .ref qdg, .ref qda, .ref qdr, .ref qdm, .ref qdt, .ref qds])), (qdw, .inl (cy 0, 8, .inl (fun _ => 0))), (qdn, .inl (cy 0, 8, .inl (fun _ => 0))), (qdg, .inl (cy 0, 8, .inl (fun _ => 0))), (qda, .inl (cy 0, 8, .inl (fun _ => 0))), (qdr, .inl (cy 0, 8, .inl (fun _ => 0))), (qdm, .inl (cy 0, 8, .inl (fun _ => 0))), (qdt, .inl (cy 0, 8, .inl (fun _ => 0))), (qds, .inl (cy 0, 64, .inl (fun _ => 0))), (qm, .inr (5, [.ref qms, .ref qmo, .ref qmz, .ref qmR, .ref qmv, .ref qmk, .ref qmb, .ref qmt, .int 0, .ref qmr, .int 0, .ref qmB, .int 0, .ref qmO, .ref qmK, .int 0, .int 0, .int 1, .null, .null, .int 0, .int 0, .int 0, .long 0, .int 0, .ref qm_three, .int 0, .int 0, .int 0, .null, .ref qm_unread, .ref qm_tryRow, .ref qm_bestRow, .ref qm_steps, .int 0])), (qmB, .inl (cy 3, 8, .inr (.inr (.inr (.inr (fun i => if i < 8 then some (rB i) else none)))))), (rB 0, .inl (cy 0, 4, .inl (fun _ => 0))), (rB 1, .inl (cy 0, 4, .inl (fun _ => 0))), (rB 2, .inl (cy 0, 4, .inl (fun _ => 0))), (rB 3, .inl (cy 0, 4, .inl (fun _ => 0))), (rB 4, .inl (cy 0, 4, .inl (fun _ => 0))), (rB 5, .inl (cy 0, 4, .inl (fun _ => 0))), (rB 6, .inl (cy 0, 4, .inl (fun _ => 0))), (rB 7, .inl (cy 0, 4, .inl (fun _ => 0))), (qmO, .inl (cy 3, 8, .inr (.inr (.inr (.inr (fun i => if i < 8 then some (rO i) else none)))))), (rO 0, .inl (cy 0, 5, .inl (fun _ => 0))), (rO 1, .inl (cy 0, 5, .inl (fun _ => 0))), (rO 2, .inl (cy 0, 5, .inl (fun _ => 0))), (rO 3, .inl (cy 0, 5, .inl (fun _ => 0))), (rO 4, .inl (cy 0, 5, .inl (fun _ => 0))), (rO 5, .inl (cy 0, 5, .inl (fun _ => 0))), (rO 6, .inl (cy 0, 5, .inl (fun _ => 0))), (rO 7, .inl (cy 0, 5, .inl (fun _ => 0))), (qmK, .inl (cy 3, 8, .inr (.inr (.inr (.inr (fun i => if i < 8 then some (rK i) else none)))))), (rK 0, .inl (cy 0, 8, .inl (fun _ => 0))), (rK 1, .inl (cy 0, 8, .inl (fun _ => 0))), (rK 2, .inl (cy 0, 8, .inl (fun _ => 0))), (rK 3, .inl (cy 0, 8, .inl (fun _ => 0))), (rK 4, .inl (cy 0, 8, .inl (fun _ => 0))), (rK 5, .inl (cy 0, 8, .inl (fun _ => 0))), (rK 6, .inl (cy 0, 8, .inl (fun _ => 0))), (rK 7, .inl (cy 0, 8, .inl (fun _ => 0))), (qmr, .inl (cy 0, 8, .inl (fun _ => 0)))] H) (hD : va_D A [(qx, .inr (4, [.ref qt, .ref qk, .ref qp, .ref qs, .ref qa, .ref qr, .int 0, .int 0, .int 0])), (qr, .inl (cy 0, 5, .inl (fun _ => 0))), (qt, .inr (3, [.int 0, .int 0, .int 0, .int 0, .int 1, .ref qtw, .ref qtn, .ref qtg, .ref qta, .ref qtr, .ref qtm, .ref qtt, .ref qts])), (qtw, .inl (cy 0, 8, .inl (fun _ => 0))), (qtn, .inl (cy 0, 8, .inl (fun _ => 0))), (qtg, .inl (cy 0, 8, .inl (fun _ => 0))), (qta, .inl (cy 0, 8, .inl (fun _ => 0))), (qtr, .inl (cy 0, 8, .inl (fun _ => 0))), (qtm, .inl (cy 0, 8, .inl (fun _ => 0))), (qtt, .inl (cy 0, 8, .inl (fun _ => 0))), (qts, .inl (cy 0, 64, .inl (fun _ => 0))), (qa, .inr (2, [.ref qab, .int 0, .int 0, .int 0, .int 0, .int 0, .ref qd])), (qd, .inr (3, [.int 0, .int 0, .int 0, .int 0, .int 1, .ref qdw, .ref qdn, .ref qdg, .ref qda, .ref qdr, .ref qdm, .ref qdt, .ref qds])), (qdw, .inl (cy 0, 8, .inl (fun _ => 0))), (qdn, .inl (cy 0, 8, .inl (fun _ => 0))), (qdg, .inl (cy 0, 8, .inl (fun _ => 0))), (qda, .inl (cy 0, 8, .inl (fun _ => 0))), (qdr, .inl (cy 0, 8, .inl (fun _ => 0))), (qdm, .inl (cy 0, 8, .inl (fun _ => 0))), (qdt, .inl (cy 0, 8, .inl (fun _ => 0))), (qds, .inl (cy 0, 64, .inl (fun _ => 0))), (qm, .inr (5, [.ref qms, .ref qmo, .ref qmz, .ref qmR, .ref qmv, .ref qmk, .ref qmb, .ref qmt, .int 0, .ref qmr, .int 0, .ref qmB, .int 0, .ref qmO, .ref qmK, .int 0, .int 0, .int 1, .null, .null, .int 0, .int 0, .int 0, .long 0, .int 0, .ref qm_three, .int 0, .int 0, .int 0, .null, .ref qm_unread, .ref qm_tryRow, .ref qm_bestRow, .ref qm_steps, .int 0])), (qmB, .inl (cy 3, 8, .inr (.inr (.inr (.inr (fun i => if i < 8 then some (rB i) else none)))))), (rB 0, .inl (cy 0, 4, .inl (fun _ => 0))), (rB 1, .inl (cy 0, 4, .inl (fun _ => 0))), (rB 2, .inl (cy 0, 4, .inl (fun _ => 0))), (rB 3, .inl (cy 0, 4, .inl (fun _ => 0))), (rB 4, .inl (cy 0, 4, .inl (fun _ => 0))), (rB 5, .inl (cy 0, 4, .inl (fun _ => 0))), (rB 6, .inl (cy 0, 4, .inl (fun _ => 0))), (rB 7, .inl (cy 0, 4, .inl (fun _ => 0))), (qmO, .inl (cy 3, 8, .inr (.inr (.inr (.inr (fun i => if i < 8 then some (rO i) else none)))))), (rO 0, .inl (cy 0, 5, .inl (fun _ => 0))), (rO 1, .inl (cy 0, 5, .inl (fun _ => 0))), (rO 2, .inl (cy 0, 5, .inl (fun _ => 0))), (rO 3, .inl (cy 0, 5, .inl (fun _ => 0))), (rO 4, .inl (cy 0, 5, .inl (fun _ => 0))), (rO 5, .inl (cy 0, 5, .inl (fun _ => 0))), (rO 6, .inl (cy 0, 5, .inl (fun _ => 0))), (rO 7, .inl (cy 0, 5, .inl (fun _ => 0))), (qmK, .inl (cy 3, 8, .inr (.inr (.inr (.inr (fun i => if i < 8 then some (rK i) else none)))))), (rK 0, .inl (cy 0, 8, .inl (fun _ => 0))), (rK 1, .inl (cy 0, 8, .inl (fun _ => 0))), (rK 2, .inl (cy 0, 8, .inl (fun _ => 0))), (rK 3, .inl (cy 0, 8, .inl (fun _ => 0))), (rK 4, .inl (cy 0, 8, .inl (fun _ => 0))), (rK 5, .inl (cy 0, 8, .inl (fun _ => 0))), (rK 6, .inl (cy 0, 8, .inl (fun _ => 0))), (rK 7, .inl (cy 0, 8, .inl (fun _ => 0))), (qmr, .inl (cy 0, 8, .inl (fun _ => 0)))]) (hS : va_S A s.heap H locs) (hl : lv_has ls 4 [(3, .int 0), (2, .ref qm), (1, .ref qx), (0, .ref b)]) : W p l e room_1 s m #[Value.ref b] below meth c H locs 105 2176 (lw_Z below #[Value.ref b] s) (F0 m 721 ls []) := by
  have hK := hN.1
  refine lv_aload_n hx hb dL_law_721 rfl (lv_at hl 2 rfl) ?_
  refine kWi (wr := [(qm, .inr (5, [.ref qms, .ref qmo, .ref qmz, .ref qmR, .ref qmv, .ref qmk, .ref qmb, .ref qmt, .int 0, .ref qmr, .int 0, .ref qmB, .int 0, .ref qmO, .ref qmK, .int 0, .int 0, .int 1, .null, .null, .int 0, .int 0, .int 0, .long 0, .int 0, .ref qm_three, .int 0, .int 0, .int 0, .null, .ref qm_unread, .ref qm_tryRow, .ref qm_bestRow, .ref qm_steps, .int 0])), (qmB, .inl (cy 3, 8, .inr (.inr (.inr (.inr (fun i => if i < 8 then some (rB i) else none)))))), (rB 0, .inl (cy 0, 4, .inl (fun _ => 0))), (rB 1, .inl (cy 0, 4, .inl (fun _ => 0))), (rB 2, .inl (cy 0, 4, .inl (fun _ => 0))), (rB 3, .inl (cy 0, 4, .inl (fun _ => 0))), (rB 4, .inl (cy 0, 4, .inl (fun _ => 0))), (rB 5, .inl (cy 0, 4, .inl (fun _ => 0))), (rB 6, .inl (cy 0, 4, .inl (fun _ => 0))), (rB 7, .inl (cy 0, 4, .inl (fun _ => 0))), (qmO, .inl (cy 3, 8, .inr (.inr (.inr (.inr (fun i => if i < 8 then some (rO i) else none)))))), (rO 0, .inl (cy 0, 5, .inl (fun _ => 0))), (rO 1, .inl (cy 0, 5, .inl (fun _ => 0))), (rO 2, .inl (cy 0, 5, .inl (fun _ => 0))), (rO 3, .inl (cy 0, 5, .inl (fun _ => 0))), (rO 4, .inl (cy 0, 5, .inl (fun _ => 0))), (rO 5, .inl (cy 0, 5, .inl (fun _ => 0))), (rO 6, .inl (cy 0, 5, .inl (fun _ => 0))), (rO 7, .inl (cy 0, 5, .inl (fun _ => 0))), (qmK, .inl (cy 3, 8, .inr (.inr (.inr (.inr (fun i => if i < 8 then some (rK i) else none)))))), (rK 0, .inl (cy 0, 8, .inl (fun _ => 0))), (rK 1, .inl (cy 0, 8, .inl (fun _ => 0))), (rK 2, .inl (cy 0, 8, .inl (fun _ => 0))), (rK 3, .inl (cy 0, 8, .inl (fun _ => 0))), (rK 4, .inl (cy 0, 8, .inl (fun _ => 0))), (rK 5, .inl (cy 0, 8, .inl (fun _ => 0))), (rK 6, .inl (cy 0, 8, .inl (fun _ => 0))), (rK 7, .inl (cy 0, 8, .inl (fun _ => 0))), (qmr, .inl (cy 0, 8, .inl (fun _ => 0)))]) (rV (As := []) (rest := []) (b := qx) ⟨hx, hb, hml, hown, hts⟩ (p_X5_town l G cy (H).size qx qt qk qp qs qa qr qtw qtn qtg qta qtr qtm qtt qts qab qd qdw qdn qdg qda qdr qdm qdt qds) L_L_71 (preWV (q := (RX5, TX5, 9)) hN hP hD [0, 1, 2, 3, 4, 5, 6, 7, 8, 9, 10, 11, 12, 13, 14, 15, 16, 17, 18, 19, 20] rfl (by decide) 0 4 rfl rfl) rfl ⟨Nat.le_of_ble_eq_true rfl, Nat.le_of_ble_eq_true rfl⟩ hl.1 (Nat.le_of_ble_eq_true rfl) dL_law_722 ⟨Nat.le_of_ble_eq_true rfl, Nat.le_of_ble_eq_true rfl⟩) hP hD hS hA [0, 1, 2, 3, 4, 5, 6, 7, 8, 9, 10, 11, 12, 13, 14, 15, 16, 17, 18, 19, 20] [21, 22, 23, 24, 25, 26, 27, 28, 29, 30, 31, 32, 33, 34, 35, 36, 37, 38, 39, 40, 41, 42, 43, 44, 45, 46, 47, 48, 49] rfl rfl (by decide) (by decide) (fun r_1 u_3 H locs h_2 hP hD hS => ?_)
  obtain ⟨rfl, h_2⟩ := h_2
  have hP : va_P G CL [(qm, .inr (5, [.ref qms, .ref qmo, .ref qmz, .ref qmR, .ref qmv, .ref qmk, .ref qmb, .ref qmt, .int 0, .ref qmr, .int 0, .ref qmB, .int 0, .ref qmO, .ref qmK, .int 0, .int 0, .int 1, .null, .null, .int 0, .int 0, .int 0, .long 0, .int 0, .ref qm_three, .int 0, .int 0, .int 0, .null, .ref qm_unread, .ref qm_tryRow, .ref qm_bestRow, .ref qm_steps, .int 0])), (qmB, .inl (cy 3, 8, .inr (.inr (.inr (.inr (fun i => if i < 8 then some (rB i) else none)))))), (rB 0, .inl (cy 0, 4, .inl (fun _ => 0))), (rB 1, .inl (cy 0, 4, .inl (fun _ => 0))), (rB 2, .inl (cy 0, 4, .inl (fun _ => 0))), (rB 3, .inl (cy 0, 4, .inl (fun _ => 0))), (rB 4, .inl (cy 0, 4, .inl (fun _ => 0))), (rB 5, .inl (cy 0, 4, .inl (fun _ => 0))), (rB 6, .inl (cy 0, 4, .inl (fun _ => 0))), (rB 7, .inl (cy 0, 4, .inl (fun _ => 0))), (qmO, .inl (cy 3, 8, .inr (.inr (.inr (.inr (fun i => if i < 8 then some (rO i) else none)))))), (rO 0, .inl (cy 0, 5, .inl (fun _ => 0))), (rO 1, .inl (cy 0, 5, .inl (fun _ => 0))), (rO 2, .inl (cy 0, 5, .inl (fun _ => 0))), (rO 3, .inl (cy 0, 5, .inl (fun _ => 0))), (rO 4, .inl (cy 0, 5, .inl (fun _ => 0))), (rO 5, .inl (cy 0, 5, .inl (fun _ => 0))), (rO 6, .inl (cy 0, 5, .inl (fun _ => 0))), (rO 7, .inl (cy 0, 5, .inl (fun _ => 0))), (qmK, .inl (cy 3, 8, .inr (.inr (.inr (.inr (fun i => if i < 8 then some (rK i) else none)))))), (rK 0, .inl (cy 0, 8, .inl (fun _ => 0))), (rK 1, .inl (cy 0, 8, .inl (fun _ => 0))), (rK 2, .inl (cy 0, 8, .inl (fun _ => 0))), (rK 3, .inl (cy 0, 8, .inl (fun _ => 0))), (rK 4, .inl (cy 0, 8, .inl (fun _ => 0))), (rK 5, .inl (cy 0, 8, .inl (fun _ => 0))), (rK 6, .inl (cy 0, 8, .inl (fun _ => 0))), (rK 7, .inl (cy 0, 8, .inl (fun _ => 0))), (qmr, .inl (cy 0, 8, .inl (fun _ => 0)))] H := hP
  have hD : va_D A [(qm, .inr (5, [.ref qms, .ref qmo, .ref qmz, .ref qmR, .ref qmv, .ref qmk, .ref qmb, .ref qmt, .int 0, .ref qmr, .int 0, .ref qmB, .int 0, .ref qmO, .ref qmK, .int 0, .int 0, .int 1, .null, .null, .int 0, .int 0, .int 0, .long 0, .int 0, .ref qm_three, .int 0, .int 0, .int 0, .null, .ref qm_unread, .ref qm_tryRow, .ref qm_bestRow, .ref qm_steps, .int 0])), (qmB, .inl (cy 3, 8, .inr (.inr (.inr (.inr (fun i => if i < 8 then some (rB i) else none)))))), (rB 0, .inl (cy 0, 4, .inl (fun _ => 0))), (rB 1, .inl (cy 0, 4, .inl (fun _ => 0))), (rB 2, .inl (cy 0, 4, .inl (fun _ => 0))), (rB 3, .inl (cy 0, 4, .inl (fun _ => 0))), (rB 4, .inl (cy 0, 4, .inl (fun _ => 0))), (rB 5, .inl (cy 0, 4, .inl (fun _ => 0))), (rB 6, .inl (cy 0, 4, .inl (fun _ => 0))), (rB 7, .inl (cy 0, 4, .inl (fun _ => 0))), (qmO, .inl (cy 3, 8, .inr (.inr (.inr (.inr (fun i => if i < 8 then some (rO i) else none)))))), (rO 0, .inl (cy 0, 5, .inl (fun _ => 0))), (rO 1, .inl (cy 0, 5, .inl (fun _ => 0))), (rO 2, .inl (cy 0, 5, .inl (fun _ => 0))), (rO 3, .inl (cy 0, 5, .inl (fun _ => 0))), (rO 4, .inl (cy 0, 5, .inl (fun _ => 0))), (rO 5, .inl (cy 0, 5, .inl (fun _ => 0))), (rO 6, .inl (cy 0, 5, .inl (fun _ => 0))), (rO 7, .inl (cy 0, 5, .inl (fun _ => 0))), (qmK, .inl (cy 3, 8, .inr (.inr (.inr (.inr (fun i => if i < 8 then some (rK i) else none)))))), (rK 0, .inl (cy 0, 8, .inl (fun _ => 0))), (rK 1, .inl (cy 0, 8, .inl (fun _ => 0))), (rK 2, .inl (cy 0, 8, .inl (fun _ => 0))), (rK 3, .inl (cy 0, 8, .inl (fun _ => 0))), (rK 4, .inl (cy 0, 8, .inl (fun _ => 0))), (rK 5, .inl (cy 0, 8, .inl (fun _ => 0))), (rK 6, .inl (cy 0, 8, .inl (fun _ => 0))), (rK 7, .inl (cy 0, 8, .inl (fun _ => 0))), (qmr, .inl (cy 0, 8, .inl (fun _ => 0)))] := hD
  subst h_2
  refine lv_aload_n hx hb dL_law_725 rfl (lv_at hl 1 rfl) ?_
  refine kWi (wr := []) (rV (As := []) (rest := [.int (-20)]) (b := qm) ⟨hx, hb, hml, hown, hts⟩ (p_X6_town l G cy (H).size qm qms qmo qmz qmR qmv qmk qmb qmt qmr qmB qmO qmK qm_three qm_unread qm_tryRow qm_bestRow qm_steps rB rO rK) L_L_74 (preWV (q := (RX6, TX6, 35)) hN hP hD [0, 1, 2, 3, 4, 5, 6, 7, 8, 9, 10, 11, 12, 13, 14, 15, 16, 17, 18, 19, 20, 21, 22, 23, 24, 25, 26, 27, 28] rfl (by decide) 0 5 rfl rfl) rfl ⟨Nat.le_of_ble_eq_true rfl, Nat.le_of_ble_eq_true rfl⟩ hl.1 (Nat.le_of_ble_eq_true rfl) dL_law_726 ⟨Nat.le_of_ble_eq_true rfl, Nat.le_of_ble_eq_true rfl⟩) hP hD hS hA [0, 1, 2, 3, 4, 5, 6, 7, 8, 9, 10, 11, 12, 13, 14, 15, 16, 17, 18, 19, 20, 21, 22, 23, 24, 25, 26, 27, 28] [] rfl rfl (by decide) (by decide) (fun r_4 u_6 H locs h_5 hP hD hS => ?_)
  obtain ⟨rfl, h_5⟩ := h_5
  have hP : va_P G CL [] H := hP
  have hD : va_D A [] := hD
  refine W.widen (k := 155) (n := 3064) (Nat.le_of_ble_eq_true rfl) (Nat.le_of_ble_eq_true rfl) ?_
  subst h_5
  refine lv_icmp_eq (tgt := 1808) hx hb dL_law_729 (by decide) (fun _ => ?_) (fun h9 => absurd (by decide) h9)
  exact law_tail hx hb hr hml hX hbl hlocks hAn hbA hS (lv_sub hl [0, 3] rfl) (Nat.le_of_ble_eq_true rfl) (Nat.le_of_ble_eq_true rfl)
