theorem dL_law_244 : decode cL_law 244 = .ok (.aload_n 1, 1) := g_43 bL_law rfl
theorem dL_law_245 : decode cL_law 245 = .ok (.aload_n 0, 1) := g_42 bL_law rfl
theorem dL_law_246 : decode cL_law 246 = .ok (.iload_n 3, 1) := g_29 bL_law rfl
theorem dL_law_247 : decode cL_law 247 = .ok (.iconst 1, 1) := g_4 bL_law rfl
theorem dL_law_248 : decode cL_law 248 = .ok (.iadd, 1) := g_96 bL_law rfl
theorem dL_law_249 : decode cL_law 249 = .ok (.iaload, 1) := g_46 bL_law rfl
theorem dL_law_250 : decode cL_law 250 = .ok (.aload_n 0, 1) := g_42 bL_law rfl
theorem dL_law_251 : decode cL_law 251 = .ok (.iload_n 3, 1) := g_29 bL_law rfl
theorem dL_law_252 : decode cL_law 252 = .ok (.iconst 2, 1) := g_5 bL_law rfl
theorem dL_law_253 : decode cL_law 253 = .ok (.iadd, 1) := g_96 bL_law rfl
theorem dL_law_254 : decode cL_law 254 = .ok (.iaload, 1) := g_46 bL_law rfl
theorem dL_law_255 : decode cL_law 255 = .ok (.aload_n 0, 1) := g_42 bL_law rfl
theorem dL_law_256 : decode cL_law 256 = .ok (.iload_n 3, 1) := g_29 bL_law rfl
theorem dL_law_257 : decode cL_law 257 = .ok (.iconst 3, 1) := g_6 bL_law rfl
theorem dL_law_258 : decode cL_law 258 = .ok (.iadd, 1) := g_96 bL_law rfl
theorem dL_law_259 : decode cL_law 259 = .ok (.iaload, 1) := g_46 bL_law rfl
theorem dL_law_260 : decode cL_law 260 = .ok (.invokevirtual 13, 3) := g_182 bL_law rfl
theorem dL_law_263 : decode cL_law 263 = .ok (.pop, 1) := g_87 bL_law rfl
theorem dL_law_264 : decode cL_law 264 = .ok (.aload_n 2, 1) := g_44 bL_law rfl
theorem dL_law_265 : decode cL_law 265 = .ok (.aload_n 0, 1) := g_42 bL_law rfl
theorem dL_law_266 : decode cL_law 266 = .ok (.iload_n 3, 1) := g_29 bL_law rfl
theorem dL_law_267 : decode cL_law 267 = .ok (.iconst 1, 1) := g_4 bL_law rfl
theorem dL_law_268 : decode cL_law 268 = .ok (.iadd, 1) := g_96 bL_law rfl
theorem dL_law_269 : decode cL_law 269 = .ok (.iaload, 1) := g_46 bL_law rfl
theorem dL_law_270 : decode cL_law 270 = .ok (.aload_n 0, 1) := g_42 bL_law rfl
theorem dL_law_271 : decode cL_law 271 = .ok (.iload_n 3, 1) := g_29 bL_law rfl
theorem dL_law_272 : decode cL_law 272 = .ok (.iconst 2, 1) := g_5 bL_law rfl
theorem dL_law_273 : decode cL_law 273 = .ok (.iadd, 1) := g_96 bL_law rfl
theorem dL_law_274 : decode cL_law 274 = .ok (.iaload, 1) := g_46 bL_law rfl
theorem dL_law_275 : decode cL_law 275 = .ok (.aload_n 0, 1) := g_42 bL_law rfl
theorem dL_law_276 : decode cL_law 276 = .ok (.iload_n 3, 1) := g_29 bL_law rfl
theorem dL_law_277 : decode cL_law 277 = .ok (.iconst 3, 1) := g_6 bL_law rfl
theorem dL_law_278 : decode cL_law 278 = .ok (.iadd, 1) := g_96 bL_law rfl
theorem dL_law_279 : decode cL_law 279 = .ok (.iaload, 1) := g_46 bL_law rfl
theorem dL_law_280 : decode cL_law 280 = .ok (.invokevirtual 17, 3) := g_182 bL_law rfl
theorem dL_law_283 : decode cL_law 283 = .ok (.pop, 1) := g_87 bL_law rfl
theorem dL_law_284 : decode cL_law 284 = .ok (.goto 1523, 3) := g_167 1523 bL_law rfl rfl
theorem dL_law_287 : decode cL_law 287 = .ok (.aload_n 1, 1) := g_43 bL_law rfl
theorem dL_law_288 : decode cL_law 288 = .ok (.aload_n 0, 1) := g_42 bL_law rfl
theorem dL_law_289 : decode cL_law 289 = .ok (.iload_n 3, 1) := g_29 bL_law rfl
theorem dL_law_290 : decode cL_law 290 = .ok (.iconst 1, 1) := g_4 bL_law rfl
theorem dL_law_291 : decode cL_law 291 = .ok (.iadd, 1) := g_96 bL_law rfl
theorem dL_law_292 : decode cL_law 292 = .ok (.iaload, 1) := g_46 bL_law rfl
theorem dL_law_293 : decode cL_law 293 = .ok (.aload_n 0, 1) := g_42 bL_law rfl
theorem dL_law_294 : decode cL_law 294 = .ok (.iload_n 3, 1) := g_29 bL_law rfl
theorem dL_law_295 : decode cL_law 295 = .ok (.iconst 2, 1) := g_5 bL_law rfl
theorem dL_law_296 : decode cL_law 296 = .ok (.iadd, 1) := g_96 bL_law rfl
theorem dL_law_297 : decode cL_law 297 = .ok (.iaload, 1) := g_46 bL_law rfl
theorem dL_law_298 : decode cL_law 298 = .ok (.aload_n 0, 1) := g_42 bL_law rfl
theorem dL_law_299 : decode cL_law 299 = .ok (.iload_n 3, 1) := g_29 bL_law rfl
theorem dL_law_300 : decode cL_law 300 = .ok (.iconst 3, 1) := g_6 bL_law rfl
theorem dL_law_301 : decode cL_law 301 = .ok (.iadd, 1) := g_96 bL_law rfl
theorem dL_law_302 : decode cL_law 302 = .ok (.iaload, 1) := g_46 bL_law rfl
theorem dL_law_303 : decode cL_law 303 = .ok (.i2l, 1) := g_133 bL_law rfl
theorem dL_law_304 : decode cL_law 304 = .ok (.bipush 32, 2) := g_16 32 bL_law rfl rfl
theorem dL_law_306 : decode cL_law 306 = .ok (.lshl, 1) := g_121 bL_law rfl
theorem dL_law_307 : decode cL_law 307 = .ok (.aload_n 0, 1) := g_42 bL_law rfl
theorem dL_law_308 : decode cL_law 308 = .ok (.iload_n 3, 1) := g_29 bL_law rfl
theorem dL_law_309 : decode cL_law 309 = .ok (.iconst 4, 1) := g_7 bL_law rfl
theorem dL_law_310 : decode cL_law 310 = .ok (.iadd, 1) := g_96 bL_law rfl
theorem dL_law_311 : decode cL_law 311 = .ok (.iaload, 1) := g_46 bL_law rfl
theorem dL_law_312 : decode cL_law 312 = .ok (.i2l, 1) := g_133 bL_law rfl
theorem dL_law_313 : decode cL_law 313 = .ok (.ldc2_w 18, 3) := g_20 bL_law rfl
theorem dL_law_316 : decode cL_law 316 = .ok (.land, 1) := g_127 bL_law rfl
theorem dL_law_317 : decode cL_law 317 = .ok (.lor, 1) := g_129 bL_law rfl
theorem dL_law_318 : decode cL_law 318 = .ok (.invokevirtual 20, 3) := g_182 bL_law rfl
theorem dL_law_321 : decode cL_law 321 = .ok (.pop, 1) := g_87 bL_law rfl
theorem dL_law_322 : decode cL_law 322 = .ok (.aload_n 2, 1) := g_44 bL_law rfl
theorem dL_law_323 : decode cL_law 323 = .ok (.aload_n 0, 1) := g_42 bL_law rfl
theorem dL_law_324 : decode cL_law 324 = .ok (.iload_n 3, 1) := g_29 bL_law rfl
theorem dL_law_325 : decode cL_law 325 = .ok (.iconst 1, 1) := g_4 bL_law rfl
theorem dL_law_326 : decode cL_law 326 = .ok (.iadd, 1) := g_96 bL_law rfl
theorem dL_law_327 : decode cL_law 327 = .ok (.iaload, 1) := g_46 bL_law rfl
theorem dL_law_328 : decode cL_law 328 = .ok (.aload_n 0, 1) := g_42 bL_law rfl
theorem dL_law_329 : decode cL_law 329 = .ok (.iload_n 3, 1) := g_29 bL_law rfl
theorem dL_law_330 : decode cL_law 330 = .ok (.iconst 2, 1) := g_5 bL_law rfl
theorem dL_law_331 : decode cL_law 331 = .ok (.iadd, 1) := g_96 bL_law rfl
theorem dL_law_332 : decode cL_law 332 = .ok (.iaload, 1) := g_46 bL_law rfl
theorem dL_law_333 : decode cL_law 333 = .ok (.aload_n 0, 1) := g_42 bL_law rfl
theorem dL_law_334 : decode cL_law 334 = .ok (.iload_n 3, 1) := g_29 bL_law rfl
theorem dL_law_335 : decode cL_law 335 = .ok (.iconst 3, 1) := g_6 bL_law rfl
theorem dL_law_336 : decode cL_law 336 = .ok (.iadd, 1) := g_96 bL_law rfl
theorem dL_law_337 : decode cL_law 337 = .ok (.iaload, 1) := g_46 bL_law rfl
theorem dL_law_338 : decode cL_law 338 = .ok (.i2l, 1) := g_133 bL_law rfl
theorem dL_law_339 : decode cL_law 339 = .ok (.bipush 32, 2) := g_16 32 bL_law rfl rfl
theorem dL_law_341 : decode cL_law 341 = .ok (.lshl, 1) := g_121 bL_law rfl
theorem dL_law_342 : decode cL_law 342 = .ok (.aload_n 0, 1) := g_42 bL_law rfl
theorem dL_law_343 : decode cL_law 343 = .ok (.iload_n 3, 1) := g_29 bL_law rfl
theorem dL_law_344 : decode cL_law 344 = .ok (.iconst 4, 1) := g_7 bL_law rfl
theorem dL_law_345 : decode cL_law 345 = .ok (.iadd, 1) := g_96 bL_law rfl
theorem dL_law_346 : decode cL_law 346 = .ok (.iaload, 1) := g_46 bL_law rfl
theorem dL_law_347 : decode cL_law 347 = .ok (.i2l, 1) := g_133 bL_law rfl
theorem dL_law_348 : decode cL_law 348 = .ok (.ldc2_w 18, 3) := g_20 bL_law rfl
theorem dL_law_351 : decode cL_law 351 = .ok (.land, 1) := g_127 bL_law rfl
theorem dL_law_352 : decode cL_law 352 = .ok (.lor, 1) := g_129 bL_law rfl
theorem dL_law_353 : decode cL_law 353 = .ok (.invokevirtual 24, 3) := g_182 bL_law rfl
theorem dL_law_356 : decode cL_law 356 = .ok (.pop, 1) := g_87 bL_law rfl
theorem dL_law_357 : decode cL_law 357 = .ok (.goto 1450, 3) := g_167 1450 bL_law rfl rfl
theorem dL_law_360 : decode cL_law 360 = .ok (.aload_n 1, 1) := g_43 bL_law rfl
theorem dL_law_361 : decode cL_law 361 = .ok (.aload_n 0, 1) := g_42 bL_law rfl
theorem dL_law_362 : decode cL_law 362 = .ok (.iload_n 3, 1) := g_29 bL_law rfl
theorem dL_law_363 : decode cL_law 363 = .ok (.iconst 1, 1) := g_4 bL_law rfl
theorem dL_law_364 : decode cL_law 364 = .ok (.iadd, 1) := g_96 bL_law rfl
theorem dL_law_365 : decode cL_law 365 = .ok (.iaload, 1) := g_46 bL_law rfl
theorem dL_law_366 : decode cL_law 366 = .ok (.aload_n 0, 1) := g_42 bL_law rfl
theorem dL_law_367 : decode cL_law 367 = .ok (.iload_n 3, 1) := g_29 bL_law rfl
theorem dL_law_368 : decode cL_law 368 = .ok (.iconst 2, 1) := g_5 bL_law rfl
theorem dL_law_369 : decode cL_law 369 = .ok (.iadd, 1) := g_96 bL_law rfl
theorem dL_law_370 : decode cL_law 370 = .ok (.iaload, 1) := g_46 bL_law rfl
theorem dL_law_371 : decode cL_law 371 = .ok (.aload_n 0, 1) := g_42 bL_law rfl
theorem dL_law_372 : decode cL_law 372 = .ok (.iload_n 3, 1) := g_29 bL_law rfl
theorem dL_law_373 : decode cL_law 373 = .ok (.iconst 3, 1) := g_6 bL_law rfl
theorem dL_law_374 : decode cL_law 374 = .ok (.iadd, 1) := g_96 bL_law rfl
theorem dL_law_375 : decode cL_law 375 = .ok (.iaload, 1) := g_46 bL_law rfl
theorem dL_law_376 : decode cL_law 376 = .ok (.aload_n 0, 1) := g_42 bL_law rfl
theorem dL_law_377 : decode cL_law 377 = .ok (.iload_n 3, 1) := g_29 bL_law rfl
theorem dL_law_378 : decode cL_law 378 = .ok (.iconst 4, 1) := g_7 bL_law rfl
theorem dL_law_379 : decode cL_law 379 = .ok (.iadd, 1) := g_96 bL_law rfl
theorem dL_law_380 : decode cL_law 380 = .ok (.iaload, 1) := g_46 bL_law rfl
theorem dL_law_381 : decode cL_law 381 = .ok (.aload_n 0, 1) := g_42 bL_law rfl
theorem dL_law_382 : decode cL_law 382 = .ok (.iload_n 3, 1) := g_29 bL_law rfl
theorem dL_law_383 : decode cL_law 383 = .ok (.iconst 5, 1) := g_8 bL_law rfl
theorem dL_law_384 : decode cL_law 384 = .ok (.iadd, 1) := g_96 bL_law rfl
theorem dL_law_385 : decode cL_law 385 = .ok (.iaload, 1) := g_46 bL_law rfl
theorem dL_law_386 : decode cL_law 386 = .ok (.invokevirtual 25, 3) := g_182 bL_law rfl
theorem dL_law_389 : decode cL_law 389 = .ok (.pop, 1) := g_87 bL_law rfl
theorem dL_law_390 : decode cL_law 390 = .ok (.aload_n 2, 1) := g_44 bL_law rfl
theorem dL_law_391 : decode cL_law 391 = .ok (.aload_n 0, 1) := g_42 bL_law rfl
theorem dL_law_392 : decode cL_law 392 = .ok (.iload_n 3, 1) := g_29 bL_law rfl
theorem dL_law_393 : decode cL_law 393 = .ok (.iconst 1, 1) := g_4 bL_law rfl
theorem dL_law_394 : decode cL_law 394 = .ok (.iadd, 1) := g_96 bL_law rfl
theorem dL_law_395 : decode cL_law 395 = .ok (.iaload, 1) := g_46 bL_law rfl
theorem dL_law_396 : decode cL_law 396 = .ok (.aload_n 0, 1) := g_42 bL_law rfl
theorem dL_law_397 : decode cL_law 397 = .ok (.iload_n 3, 1) := g_29 bL_law rfl
theorem dL_law_398 : decode cL_law 398 = .ok (.iconst 2, 1) := g_5 bL_law rfl
theorem dL_law_399 : decode cL_law 399 = .ok (.iadd, 1) := g_96 bL_law rfl
theorem dL_law_400 : decode cL_law 400 = .ok (.iaload, 1) := g_46 bL_law rfl
theorem dL_law_401 : decode cL_law 401 = .ok (.aload_n 0, 1) := g_42 bL_law rfl
theorem dL_law_402 : decode cL_law 402 = .ok (.iload_n 3, 1) := g_29 bL_law rfl
theorem dL_law_403 : decode cL_law 403 = .ok (.iconst 3, 1) := g_6 bL_law rfl
theorem dL_law_404 : decode cL_law 404 = .ok (.iadd, 1) := g_96 bL_law rfl
theorem dL_law_405 : decode cL_law 405 = .ok (.iaload, 1) := g_46 bL_law rfl
theorem dL_law_406 : decode cL_law 406 = .ok (.aload_n 0, 1) := g_42 bL_law rfl
theorem dL_law_407 : decode cL_law 407 = .ok (.iload_n 3, 1) := g_29 bL_law rfl
theorem dL_law_408 : decode cL_law 408 = .ok (.iconst 4, 1) := g_7 bL_law rfl
theorem dL_law_409 : decode cL_law 409 = .ok (.iadd, 1) := g_96 bL_law rfl
theorem dL_law_410 : decode cL_law 410 = .ok (.iaload, 1) := g_46 bL_law rfl
theorem dL_law_411 : decode cL_law 411 = .ok (.aload_n 0, 1) := g_42 bL_law rfl
theorem dL_law_412 : decode cL_law 412 = .ok (.iload_n 3, 1) := g_29 bL_law rfl
theorem dL_law_413 : decode cL_law 413 = .ok (.iconst 5, 1) := g_8 bL_law rfl
theorem dL_law_414 : decode cL_law 414 = .ok (.iadd, 1) := g_96 bL_law rfl
theorem dL_law_415 : decode cL_law 415 = .ok (.iaload, 1) := g_46 bL_law rfl
theorem dL_law_416 : decode cL_law 416 = .ok (.invokevirtual 29, 3) := g_182 bL_law rfl
theorem dL_law_419 : decode cL_law 419 = .ok (.pop, 1) := g_87 bL_law rfl
theorem dL_law_420 : decode cL_law 420 = .ok (.goto 1387, 3) := g_167 1387 bL_law rfl rfl
theorem dL_law_423 : decode cL_law 423 = .ok (.aload_n 1, 1) := g_43 bL_law rfl
theorem dL_law_424 : decode cL_law 424 = .ok (.aload_n 0, 1) := g_42 bL_law rfl
theorem dL_law_425 : decode cL_law 425 = .ok (.iload_n 3, 1) := g_29 bL_law rfl
theorem dL_law_426 : decode cL_law 426 = .ok (.iconst 1, 1) := g_4 bL_law rfl
theorem dL_law_427 : decode cL_law 427 = .ok (.iadd, 1) := g_96 bL_law rfl
theorem dL_law_428 : decode cL_law 428 = .ok (.iaload, 1) := g_46 bL_law rfl
theorem dL_law_429 : decode cL_law 429 = .ok (.aload_n 0, 1) := g_42 bL_law rfl
theorem dL_law_430 : decode cL_law 430 = .ok (.iload_n 3, 1) := g_29 bL_law rfl
theorem dL_law_431 : decode cL_law 431 = .ok (.iconst 2, 1) := g_5 bL_law rfl
theorem dL_law_432 : decode cL_law 432 = .ok (.iadd, 1) := g_96 bL_law rfl
theorem dL_law_433 : decode cL_law 433 = .ok (.iaload, 1) := g_46 bL_law rfl
theorem dL_law_434 : decode cL_law 434 = .ok (.invokevirtual 30, 3) := g_182 bL_law rfl
theorem dL_law_437 : decode cL_law 437 = .ok (.pop2, 1) := g_88 bL_law rfl
theorem dL_law_438 : decode cL_law 438 = .ok (.aload_n 2, 1) := g_44 bL_law rfl
theorem dL_law_439 : decode cL_law 439 = .ok (.aload_n 0, 1) := g_42 bL_law rfl
theorem dL_law_440 : decode cL_law 440 = .ok (.iload_n 3, 1) := g_29 bL_law rfl
theorem dL_law_441 : decode cL_law 441 = .ok (.iconst 1, 1) := g_4 bL_law rfl
theorem dL_law_442 : decode cL_law 442 = .ok (.iadd, 1) := g_96 bL_law rfl
theorem dL_law_443 : decode cL_law 443 = .ok (.iaload, 1) := g_46 bL_law rfl
theorem dL_law_444 : decode cL_law 444 = .ok (.aload_n 0, 1) := g_42 bL_law rfl
theorem dL_law_445 : decode cL_law 445 = .ok (.iload_n 3, 1) := g_29 bL_law rfl
theorem dL_law_446 : decode cL_law 446 = .ok (.iconst 2, 1) := g_5 bL_law rfl
theorem dL_law_447 : decode cL_law 447 = .ok (.iadd, 1) := g_96 bL_law rfl
theorem dL_law_448 : decode cL_law 448 = .ok (.iaload, 1) := g_46 bL_law rfl
theorem dL_law_449 : decode cL_law 449 = .ok (.invokevirtual 34, 3) := g_182 bL_law rfl
theorem dL_law_452 : decode cL_law 452 = .ok (.pop2, 1) := g_88 bL_law rfl
theorem dL_law_453 : decode cL_law 453 = .ok (.goto 1354, 3) := g_167 1354 bL_law rfl rfl
theorem dL_law_456 : decode cL_law 456 = .ok (.aload_n 1, 1) := g_43 bL_law rfl
theorem dL_law_457 : decode cL_law 457 = .ok (.aload_n 0, 1) := g_42 bL_law rfl
theorem dL_law_458 : decode cL_law 458 = .ok (.iload_n 3, 1) := g_29 bL_law rfl
theorem dL_law_459 : decode cL_law 459 = .ok (.iconst 1, 1) := g_4 bL_law rfl
theorem dL_law_460 : decode cL_law 460 = .ok (.iadd, 1) := g_96 bL_law rfl
theorem dL_law_461 : decode cL_law 461 = .ok (.iaload, 1) := g_46 bL_law rfl
theorem dL_law_462 : decode cL_law 462 = .ok (.invokevirtual 35, 3) := g_182 bL_law rfl
theorem dL_law_465 : decode cL_law 465 = .ok (.pop, 1) := g_87 bL_law rfl
theorem dL_law_466 : decode cL_law 466 = .ok (.aload_n 2, 1) := g_44 bL_law rfl
theorem dL_law_467 : decode cL_law 467 = .ok (.aload_n 0, 1) := g_42 bL_law rfl
theorem dL_law_468 : decode cL_law 468 = .ok (.iload_n 3, 1) := g_29 bL_law rfl
theorem dL_law_469 : decode cL_law 469 = .ok (.iconst 1, 1) := g_4 bL_law rfl
theorem dL_law_470 : decode cL_law 470 = .ok (.iadd, 1) := g_96 bL_law rfl
theorem dL_law_471 : decode cL_law 471 = .ok (.iaload, 1) := g_46 bL_law rfl
theorem dL_law_472 : decode cL_law 472 = .ok (.invokevirtual 39, 3) := g_182 bL_law rfl
theorem dL_law_475 : decode cL_law 475 = .ok (.pop, 1) := g_87 bL_law rfl
theorem dL_law_476 : decode cL_law 476 = .ok (.goto 1331, 3) := g_167 1331 bL_law rfl rfl
theorem dL_law_479 : decode cL_law 479 = .ok (.aload_n 1, 1) := g_43 bL_law rfl
theorem dL_law_480 : decode cL_law 480 = .ok (.aload_n 0, 1) := g_42 bL_law rfl
theorem dL_law_481 : decode cL_law 481 = .ok (.iload_n 3, 1) := g_29 bL_law rfl
theorem dL_law_482 : decode cL_law 482 = .ok (.iconst 1, 1) := g_4 bL_law rfl
theorem dL_law_483 : decode cL_law 483 = .ok (.iadd, 1) := g_96 bL_law rfl
theorem dL_law_484 : decode cL_law 484 = .ok (.iaload, 1) := g_46 bL_law rfl
theorem dL_law_485 : decode cL_law 485 = .ok (.aload_n 0, 1) := g_42 bL_law rfl
theorem dL_law_486 : decode cL_law 486 = .ok (.iload_n 3, 1) := g_29 bL_law rfl
theorem dL_law_487 : decode cL_law 487 = .ok (.iconst 2, 1) := g_5 bL_law rfl
theorem dL_law_488 : decode cL_law 488 = .ok (.iadd, 1) := g_96 bL_law rfl
theorem dL_law_489 : decode cL_law 489 = .ok (.iaload, 1) := g_46 bL_law rfl
theorem dL_law_490 : decode cL_law 490 = .ok (.aload_n 0, 1) := g_42 bL_law rfl
theorem dL_law_491 : decode cL_law 491 = .ok (.iload_n 3, 1) := g_29 bL_law rfl
theorem dL_law_492 : decode cL_law 492 = .ok (.iconst 3, 1) := g_6 bL_law rfl
theorem dL_law_493 : decode cL_law 493 = .ok (.iadd, 1) := g_96 bL_law rfl
theorem dL_law_494 : decode cL_law 494 = .ok (.iaload, 1) := g_46 bL_law rfl
theorem dL_law_495 : decode cL_law 495 = .ok (.invokevirtual 40, 3) := g_182 bL_law rfl
theorem dL_law_498 : decode cL_law 498 = .ok (.pop, 1) := g_87 bL_law rfl
theorem dL_law_499 : decode cL_law 499 = .ok (.aload_n 2, 1) := g_44 bL_law rfl
theorem dL_law_500 : decode cL_law 500 = .ok (.aload_n 0, 1) := g_42 bL_law rfl
theorem dL_law_501 : decode cL_law 501 = .ok (.iload_n 3, 1) := g_29 bL_law rfl
theorem dL_law_502 : decode cL_law 502 = .ok (.iconst 1, 1) := g_4 bL_law rfl
theorem dL_law_503 : decode cL_law 503 = .ok (.iadd, 1) := g_96 bL_law rfl
theorem dL_law_504 : decode cL_law 504 = .ok (.iaload, 1) := g_46 bL_law rfl
theorem dL_law_505 : decode cL_law 505 = .ok (.aload_n 0, 1) := g_42 bL_law rfl
theorem dL_law_506 : decode cL_law 506 = .ok (.iload_n 3, 1) := g_29 bL_law rfl
theorem dL_law_507 : decode cL_law 507 = .ok (.iconst 2, 1) := g_5 bL_law rfl
theorem dL_law_508 : decode cL_law 508 = .ok (.iadd, 1) := g_96 bL_law rfl
theorem dL_law_509 : decode cL_law 509 = .ok (.iaload, 1) := g_46 bL_law rfl
theorem dL_law_510 : decode cL_law 510 = .ok (.aload_n 0, 1) := g_42 bL_law rfl
theorem dL_law_511 : decode cL_law 511 = .ok (.iload_n 3, 1) := g_29 bL_law rfl
theorem dL_law_512 : decode cL_law 512 = .ok (.iconst 3, 1) := g_6 bL_law rfl
theorem dL_law_513 : decode cL_law 513 = .ok (.iadd, 1) := g_96 bL_law rfl
theorem dL_law_514 : decode cL_law 514 = .ok (.iaload, 1) := g_46 bL_law rfl
theorem dL_law_515 : decode cL_law 515 = .ok (.invokevirtual 43, 3) := g_182 bL_law rfl
theorem dL_law_518 : decode cL_law 518 = .ok (.pop, 1) := g_87 bL_law rfl
theorem dL_law_519 : decode cL_law 519 = .ok (.goto 1288, 3) := g_167 1288 bL_law rfl rfl
theorem dL_law_522 : decode cL_law 522 = .ok (.aload_n 1, 1) := g_43 bL_law rfl
theorem dL_law_523 : decode cL_law 523 = .ok (.aload_n 0, 1) := g_42 bL_law rfl
theorem dL_law_524 : decode cL_law 524 = .ok (.iload_n 3, 1) := g_29 bL_law rfl
theorem dL_law_525 : decode cL_law 525 = .ok (.iconst 1, 1) := g_4 bL_law rfl
theorem dL_law_526 : decode cL_law 526 = .ok (.iadd, 1) := g_96 bL_law rfl
theorem dL_law_527 : decode cL_law 527 = .ok (.iaload, 1) := g_46 bL_law rfl
theorem dL_law_528 : decode cL_law 528 = .ok (.aload_n 0, 1) := g_42 bL_law rfl
theorem dL_law_529 : decode cL_law 529 = .ok (.iload_n 3, 1) := g_29 bL_law rfl
theorem dL_law_530 : decode cL_law 530 = .ok (.iconst 2, 1) := g_5 bL_law rfl
theorem dL_law_531 : decode cL_law 531 = .ok (.iadd, 1) := g_96 bL_law rfl
theorem dL_law_532 : decode cL_law 532 = .ok (.iaload, 1) := g_46 bL_law rfl
theorem dL_law_533 : decode cL_law 533 = .ok (.invokevirtual 44, 3) := g_182 bL_law rfl
theorem dL_law_536 : decode cL_law 536 = .ok (.pop, 1) := g_87 bL_law rfl
theorem dL_law_537 : decode cL_law 537 = .ok (.aload_n 2, 1) := g_44 bL_law rfl
theorem dL_law_538 : decode cL_law 538 = .ok (.aload_n 0, 1) := g_42 bL_law rfl
theorem dL_law_539 : decode cL_law 539 = .ok (.iload_n 3, 1) := g_29 bL_law rfl
theorem dL_law_540 : decode cL_law 540 = .ok (.iconst 1, 1) := g_4 bL_law rfl
theorem dL_law_541 : decode cL_law 541 = .ok (.iadd, 1) := g_96 bL_law rfl
theorem dL_law_542 : decode cL_law 542 = .ok (.iaload, 1) := g_46 bL_law rfl
theorem dL_law_543 : decode cL_law 543 = .ok (.aload_n 0, 1) := g_42 bL_law rfl
theorem dL_law_544 : decode cL_law 544 = .ok (.iload_n 3, 1) := g_29 bL_law rfl
theorem dL_law_545 : decode cL_law 545 = .ok (.iconst 2, 1) := g_5 bL_law rfl
theorem dL_law_546 : decode cL_law 546 = .ok (.iadd, 1) := g_96 bL_law rfl
theorem dL_law_547 : decode cL_law 547 = .ok (.iaload, 1) := g_46 bL_law rfl
theorem dL_law_548 : decode cL_law 548 = .ok (.invokevirtual 48, 3) := g_182 bL_law rfl
theorem dL_law_551 : decode cL_law 551 = .ok (.pop, 1) := g_87 bL_law rfl
theorem dL_law_552 : decode cL_law 552 = .ok (.goto 1255, 3) := g_167 1255 bL_law rfl rfl
theorem dL_law_555 : decode cL_law 555 = .ok (.aload_n 1, 1) := g_43 bL_law rfl
theorem dL_law_556 : decode cL_law 556 = .ok (.aload_n 0, 1) := g_42 bL_law rfl
theorem dL_law_557 : decode cL_law 557 = .ok (.iload_n 3, 1) := g_29 bL_law rfl
theorem dL_law_558 : decode cL_law 558 = .ok (.iconst 1, 1) := g_4 bL_law rfl
theorem dL_law_559 : decode cL_law 559 = .ok (.iadd, 1) := g_96 bL_law rfl
theorem dL_law_560 : decode cL_law 560 = .ok (.iaload, 1) := g_46 bL_law rfl
theorem dL_law_561 : decode cL_law 561 = .ok (.aload_n 0, 1) := g_42 bL_law rfl
theorem dL_law_562 : decode cL_law 562 = .ok (.iload_n 3, 1) := g_29 bL_law rfl
theorem dL_law_563 : decode cL_law 563 = .ok (.iconst 2, 1) := g_5 bL_law rfl
theorem dL_law_564 : decode cL_law 564 = .ok (.iadd, 1) := g_96 bL_law rfl
theorem dL_law_565 : decode cL_law 565 = .ok (.iaload, 1) := g_46 bL_law rfl
theorem dL_law_566 : decode cL_law 566 = .ok (.invokevirtual 49, 3) := g_182 bL_law rfl
theorem dL_law_569 : decode cL_law 569 = .ok (.pop, 1) := g_87 bL_law rfl
theorem dL_law_570 : decode cL_law 570 = .ok (.aload_n 2, 1) := g_44 bL_law rfl
theorem dL_law_571 : decode cL_law 571 = .ok (.aload_n 0, 1) := g_42 bL_law rfl
theorem dL_law_572 : decode cL_law 572 = .ok (.iload_n 3, 1) := g_29 bL_law rfl
theorem dL_law_573 : decode cL_law 573 = .ok (.iconst 1, 1) := g_4 bL_law rfl
theorem dL_law_574 : decode cL_law 574 = .ok (.iadd, 1) := g_96 bL_law rfl
theorem dL_law_575 : decode cL_law 575 = .ok (.iaload, 1) := g_46 bL_law rfl
theorem dL_law_576 : decode cL_law 576 = .ok (.aload_n 0, 1) := g_42 bL_law rfl
theorem dL_law_577 : decode cL_law 577 = .ok (.iload_n 3, 1) := g_29 bL_law rfl
theorem dL_law_578 : decode cL_law 578 = .ok (.iconst 2, 1) := g_5 bL_law rfl
theorem dL_law_579 : decode cL_law 579 = .ok (.iadd, 1) := g_96 bL_law rfl
theorem dL_law_580 : decode cL_law 580 = .ok (.iaload, 1) := g_46 bL_law rfl
theorem dL_law_581 : decode cL_law 581 = .ok (.invokevirtual 52, 3) := g_182 bL_law rfl
theorem dL_law_584 : decode cL_law 584 = .ok (.pop, 1) := g_87 bL_law rfl
theorem dL_law_585 : decode cL_law 585 = .ok (.goto 1222, 3) := g_167 1222 bL_law rfl rfl
theorem dL_law_588 : decode cL_law 588 = .ok (.aload_n 1, 1) := g_43 bL_law rfl
theorem dL_law_589 : decode cL_law 589 = .ok (.aload_n 0, 1) := g_42 bL_law rfl
theorem dL_law_590 : decode cL_law 590 = .ok (.iload_n 3, 1) := g_29 bL_law rfl
theorem dL_law_591 : decode cL_law 591 = .ok (.iconst 1, 1) := g_4 bL_law rfl
theorem dL_law_592 : decode cL_law 592 = .ok (.iadd, 1) := g_96 bL_law rfl
theorem dL_law_593 : decode cL_law 593 = .ok (.iaload, 1) := g_46 bL_law rfl
theorem dL_law_594 : decode cL_law 594 = .ok (.aload_n 0, 1) := g_42 bL_law rfl
theorem dL_law_595 : decode cL_law 595 = .ok (.iload_n 3, 1) := g_29 bL_law rfl
theorem dL_law_596 : decode cL_law 596 = .ok (.iconst 2, 1) := g_5 bL_law rfl
theorem dL_law_597 : decode cL_law 597 = .ok (.iadd, 1) := g_96 bL_law rfl
theorem dL_law_598 : decode cL_law 598 = .ok (.iaload, 1) := g_46 bL_law rfl
theorem dL_law_599 : decode cL_law 599 = .ok (.aload_n 0, 1) := g_42 bL_law rfl
theorem dL_law_600 : decode cL_law 600 = .ok (.iload_n 3, 1) := g_29 bL_law rfl
theorem dL_law_601 : decode cL_law 601 = .ok (.iconst 3, 1) := g_6 bL_law rfl
theorem dL_law_602 : decode cL_law 602 = .ok (.iadd, 1) := g_96 bL_law rfl
theorem dL_law_603 : decode cL_law 603 = .ok (.iaload, 1) := g_46 bL_law rfl
theorem dL_law_604 : decode cL_law 604 = .ok (.aload_n 0, 1) := g_42 bL_law rfl
theorem dL_law_605 : decode cL_law 605 = .ok (.iload_n 3, 1) := g_29 bL_law rfl
theorem dL_law_606 : decode cL_law 606 = .ok (.iconst 4, 1) := g_7 bL_law rfl
theorem dL_law_607 : decode cL_law 607 = .ok (.iadd, 1) := g_96 bL_law rfl
theorem dL_law_608 : decode cL_law 608 = .ok (.iaload, 1) := g_46 bL_law rfl
theorem dL_law_609 : decode cL_law 609 = .ok (.invokevirtual 53, 3) := g_182 bL_law rfl
theorem dL_law_612 : decode cL_law 612 = .ok (.pop, 1) := g_87 bL_law rfl
theorem dL_law_613 : decode cL_law 613 = .ok (.aload_n 2, 1) := g_44 bL_law rfl
theorem dL_law_614 : decode cL_law 614 = .ok (.aload_n 0, 1) := g_42 bL_law rfl
theorem dL_law_615 : decode cL_law 615 = .ok (.iload_n 3, 1) := g_29 bL_law rfl
theorem dL_law_616 : decode cL_law 616 = .ok (.iconst 1, 1) := g_4 bL_law rfl
theorem dL_law_617 : decode cL_law 617 = .ok (.iadd, 1) := g_96 bL_law rfl
theorem dL_law_618 : decode cL_law 618 = .ok (.iaload, 1) := g_46 bL_law rfl
theorem dL_law_619 : decode cL_law 619 = .ok (.aload_n 0, 1) := g_42 bL_law rfl
theorem dL_law_620 : decode cL_law 620 = .ok (.iload_n 3, 1) := g_29 bL_law rfl
theorem dL_law_621 : decode cL_law 621 = .ok (.iconst 2, 1) := g_5 bL_law rfl
theorem dL_law_622 : decode cL_law 622 = .ok (.iadd, 1) := g_96 bL_law rfl
theorem dL_law_623 : decode cL_law 623 = .ok (.iaload, 1) := g_46 bL_law rfl
theorem dL_law_624 : decode cL_law 624 = .ok (.aload_n 0, 1) := g_42 bL_law rfl
theorem dL_law_625 : decode cL_law 625 = .ok (.iload_n 3, 1) := g_29 bL_law rfl
theorem dL_law_626 : decode cL_law 626 = .ok (.iconst 3, 1) := g_6 bL_law rfl
theorem dL_law_627 : decode cL_law 627 = .ok (.iadd, 1) := g_96 bL_law rfl
theorem dL_law_628 : decode cL_law 628 = .ok (.iaload, 1) := g_46 bL_law rfl
theorem dL_law_629 : decode cL_law 629 = .ok (.aload_n 0, 1) := g_42 bL_law rfl
theorem dL_law_630 : decode cL_law 630 = .ok (.iload_n 3, 1) := g_29 bL_law rfl
theorem dL_law_631 : decode cL_law 631 = .ok (.iconst 4, 1) := g_7 bL_law rfl
theorem dL_law_632 : decode cL_law 632 = .ok (.iadd, 1) := g_96 bL_law rfl
theorem dL_law_633 : decode cL_law 633 = .ok (.iaload, 1) := g_46 bL_law rfl
theorem dL_law_634 : decode cL_law 634 = .ok (.invokevirtual 57, 3) := g_182 bL_law rfl
theorem dL_law_637 : decode cL_law 637 = .ok (.pop, 1) := g_87 bL_law rfl
theorem dL_law_638 : decode cL_law 638 = .ok (.goto 1169, 3) := g_167 1169 bL_law rfl rfl
theorem dL_law_641 : decode cL_law 641 = .ok (.aload_n 1, 1) := g_43 bL_law rfl
theorem dL_law_642 : decode cL_law 642 = .ok (.aload_n 0, 1) := g_42 bL_law rfl
theorem dL_law_643 : decode cL_law 643 = .ok (.iload_n 3, 1) := g_29 bL_law rfl
theorem dL_law_644 : decode cL_law 644 = .ok (.iconst 1, 1) := g_4 bL_law rfl
theorem dL_law_645 : decode cL_law 645 = .ok (.iadd, 1) := g_96 bL_law rfl
theorem dL_law_646 : decode cL_law 646 = .ok (.iaload, 1) := g_46 bL_law rfl
theorem dL_law_647 : decode cL_law 647 = .ok (.aload_n 0, 1) := g_42 bL_law rfl
theorem dL_law_648 : decode cL_law 648 = .ok (.iload_n 3, 1) := g_29 bL_law rfl
theorem dL_law_649 : decode cL_law 649 = .ok (.iconst 2, 1) := g_5 bL_law rfl
theorem dL_law_650 : decode cL_law 650 = .ok (.iadd, 1) := g_96 bL_law rfl
theorem dL_law_651 : decode cL_law 651 = .ok (.iaload, 1) := g_46 bL_law rfl
theorem dL_law_652 : decode cL_law 652 = .ok (.invokevirtual 58, 3) := g_182 bL_law rfl
theorem dL_law_655 : decode cL_law 655 = .ok (.pop, 1) := g_87 bL_law rfl
theorem dL_law_656 : decode cL_law 656 = .ok (.aload_n 2, 1) := g_44 bL_law rfl
theorem dL_law_657 : decode cL_law 657 = .ok (.aload_n 0, 1) := g_42 bL_law rfl
theorem dL_law_658 : decode cL_law 658 = .ok (.iload_n 3, 1) := g_29 bL_law rfl
theorem dL_law_659 : decode cL_law 659 = .ok (.iconst 1, 1) := g_4 bL_law rfl
theorem dL_law_660 : decode cL_law 660 = .ok (.iadd, 1) := g_96 bL_law rfl
theorem dL_law_661 : decode cL_law 661 = .ok (.iaload, 1) := g_46 bL_law rfl
theorem dL_law_662 : decode cL_law 662 = .ok (.aload_n 0, 1) := g_42 bL_law rfl
theorem dL_law_663 : decode cL_law 663 = .ok (.iload_n 3, 1) := g_29 bL_law rfl
theorem dL_law_664 : decode cL_law 664 = .ok (.iconst 2, 1) := g_5 bL_law rfl
theorem dL_law_665 : decode cL_law 665 = .ok (.iadd, 1) := g_96 bL_law rfl
theorem dL_law_666 : decode cL_law 666 = .ok (.iaload, 1) := g_46 bL_law rfl
theorem dL_law_667 : decode cL_law 667 = .ok (.invokevirtual 61, 3) := g_182 bL_law rfl
theorem dL_law_670 : decode cL_law 670 = .ok (.pop, 1) := g_87 bL_law rfl
theorem dL_law_671 : decode cL_law 671 = .ok (.goto 1136, 3) := g_167 1136 bL_law rfl rfl
theorem dL_law_1807 : decode cL_law 1807 = .ok (.iinc 3 6, 3) := g_132 6 bL_law rfl rfl
theorem dL_law_1813 : decode cL_law 1813 = .ok (.iconst 1, 1) := g_4 bL_law rfl
theorem dL_law_1814 : decode cL_law 1814 = .ok (.ireturn, 1) := g_172 bL_law rfl
theorem law_end {p : Program} {l : Launch} {e : Env} {s : State} {m : MethodId} {below : List Frame} {meth : Method} {c : Code} {b : Nat} {A : Nat → Prop} {H : Heap} {locs : List Loc} {ls : Array Slot} {cells slots : Nat} (hx : p.tables.exec = Jvm.exec) (hb : c.code = code) (hr : meth.sig.returnType = ret) (hlocks : meth.locks = false) (hAn : ∀ q : Nat, A q → s.heap.size ≤ q) (hS : va_S A s.heap H locs) (hc : cells ≤ 600000) (hs : slots ≤ 7302250) : W p l e room_1 s m #[Value.ref b] below meth c H locs cells slots (lw_Z below #[Value.ref b] s) (F0 m 1813 ls []) := by
  refine lv_iconst (v := 1) hx hb dL_law_1813 (by decide) ?_
  refine va_forget (fun q hq => hAn _ (hS.2.2 q hq)) ?_
  refine W.widen (k := 600000) (n := 7302250) hc hs ?_
  exact lw_ret hx hb hr hlocks dL_law_1814

set_option maxHeartbeats 4000000 in
set_option maxRecDepth 100000 in
theorem law_0 {p : Program} {l : Launch} {e : Env} {s : State} {m : MethodId} {below : List Frame} {meth : Method} {c : Code} {b L : Nat} {xs : Nat → Int32} {A : Nat → Prop} {G : va_G} {cy : Nat → ClassId} {aX aM rR rB rO rK : Nat → Nat} (hx : p.tables.exec = Jvm.exec) (hb : c.code = code) (hr : meth.sig.returnType = ret) (hml : c.maxLocals = 4) (hown : s.vm.findClass RL = some m.cls) (hts : ∀ w ∈ BIG, w.before #[Value.ref b] s = true) (hX : va_X b L xs s s.heap) (hbl : b < s.heap.size) (hlocks : meth.locks = false) (hN : KN G cy s) (hA : ∀ q : Nat, s.heap.size ≤ q → A q) (hAn : ∀ q : Nat, A q → s.heap.size ≤ q) (hbA : ¬ A b) (hSO : SO A s s.heap) {H : Heap} {locs : List Loc} {ls : Array Slot} {kI nC nS : Nat} (hkI : kI + 6 ≤ L) (hL : L ≤ 384) (hnC : nC + 250 ≤ 600000) (hnS : nS + 4440 ≤ 7302250) {iKp : Int32} {iYe : Int32} {iTv : Int32} {fR : Nat → Int32} {tA : TA} {tB : TA} {iL : Int32} {iBs : Int32} {tU : TA} {tV : TA} {fH : Nat → Int32} {fS : Nat → Int32} {fA : Nat → Int32} {gE : Nat → Int64} {kZ : Nat} {iT1 : Int32} {iT2 : Int32} {iT3 : Int32} {iT4 : Int32} {fB : Nat → Int32} {tD : TA} {fMh : Nat → Int32} {fMo : Nat → Int32} {fMz : Nat → Int32} {gMv : Nat → Int64} {fMk : Nat → Int32} {fMa : Nat → Int32} {fMt : Nat → Int32} {kY : Nat} {fMr : Nat → Int32} {fM3 : Nat → Int32} {fMu : Nat → Int32} {fMy : Nat → Int32} {fMb : Nat → Int32} {eR : Nat → Nat → Int64} {tM : TA} {iEn : Int32} {iTk : Int32} {uP : UM} {uU : UM} {kAt : Nat} {iTo : Int32} {iFr : Int32} {JFi : Int64} {iFa : Int32} {iSt : Int32} {iLv : Int32} {iWs : Int32} {wL : UL} {uS0 : UM} {uS1 : UM} {uS2 : UM} {uS3 : UM} {uS4 : UM} {iOm : Int32} (hP : va_P G CL ((XW cy aX iKp iYe iTv fR tA tB iL iBs tU tV fH fS fA gE kZ iT1 iT2 iT3 iT4 fB tD) ++ ((MK cy aM rR rB rO rK fMh fMo fMz gMv fMk fMa fMt kY fMr fM3 fMu fMy fMb eR tM iEn iTk uP uU kAt iTo iFr JFi iFa iSt iLv iWs wL uS0 uS1 uS2 uS3 uS4 iOm) ++ ((oM cy uU) ++ ((oL cy wL) ++ ((oM cy uP) ++ (oM cy uS0 ++ (oM cy uS1 ++ (oM cy uS2 ++ (oM cy uS3 ++ oM cy uS4))))))))) H) (hD : va_D A ((XW cy aX iKp iYe iTv fR tA tB iL iBs tU tV fH fS fA gE kZ iT1 iT2 iT3 iT4 fB tD) ++ ((MK cy aM rR rB rO rK fMh fMo fMz gMv fMk fMa fMt kY fMr fM3 fMu fMy fMb eR tM iEn iTk uP uU kAt iTo iFr JFi iFa iSt iLv iWs wL uS0 uS1 uS2 uS3 uS4 iOm) ++ ((oM cy uU) ++ ((oL cy wL) ++ ((oM cy uP) ++ (oM cy uS0 ++ (oM cy uS1 ++ (oM cy uS2 ++ (oM cy uS3 ++ oM cy uS4)))))))))) (hsX : SX tA tB tD fS kZ) (hsM : SM tM uP fMz fMa kY) (hLR : LR iKp tA tB fH fS fA gE kZ fMh fMo fMz fMk fMa eR kY tM uP fB fMt) (hS : va_S A s.heap H locs) (hl : lv_has ls 4 [(3, .int (nI kI)), (2, .ref (aM 0)), (1, .ref (aX 0)), (0, .ref b)]) (kk : ∀ (H : Heap) (locs : List Loc), LINV G cy A H aX aM rR rB rO rK → va_S A s.heap H locs → W p l e room_1 s m #[Value.ref b] below meth c H locs (nC + 250) (nS + 4440) (lw_Z below #[Value.ref b] s) (F0 m 1807 ls [])) : W p l e room_1 s m #[Value.ref b] below meth c H locs nC nS (lw_Z below #[Value.ref b] s) (F0 m 244 ls []) := by
  refine lv_aload_n hx hb dL_law_244 rfl (lv_at hl 2 rfl) ?_
  refine lv_aload_n hx hb dL_law_245 rfl (lv_at hl 3 rfl) ?_
  refine lv_iload_n hx hb dL_law_246 rfl (lv_at hl 0 rfl) ?_
  refine lv_iconst (v := 1) hx hb dL_law_247 (by decide) ?_
  refine lv_iadd hx hb dL_law_248 ?_
  refine lv_seti (v := nI (kI + 1)) (nI_add _ _) ?_
  refine va_sld hx hb hX hbl hbA hS (vp_in_nI (by omega) (by omega)) dL_law_249 ?_
  refine lv_seti (v := xs (kI + 1)) (congrArg xs (nI_clamp (by omega))) ?_
  refine lv_aload_n hx hb dL_law_250 rfl (lv_at hl 3 rfl) ?_
  refine lv_iload_n hx hb dL_law_251 rfl (lv_at hl 0 rfl) ?_
  refine lv_iconst (v := 2) hx hb dL_law_252 (by decide) ?_
  refine lv_iadd hx hb dL_law_253 ?_
  refine lv_seti (v := nI (kI + 2)) (nI_add _ _) ?_
  refine va_sld hx hb hX hbl hbA hS (vp_in_nI (by omega) (by omega)) dL_law_254 ?_
  refine lv_seti (v := xs (kI + 2)) (congrArg xs (nI_clamp (by omega))) ?_
  refine lv_aload_n hx hb dL_law_255 rfl (lv_at hl 3 rfl) ?_
  refine lv_iload_n hx hb dL_law_256 rfl (lv_at hl 0 rfl) ?_
  refine lv_iconst (v := 3) hx hb dL_law_257 (by decide) ?_
  refine lv_iadd hx hb dL_law_258 ?_
  refine lv_seti (v := nI (kI + 3)) (nI_add _ _) ?_
  refine va_sld hx hb hX hbl hbA hS (vp_in_nI (by omega) (by omega)) dL_law_259 ?_
  refine lv_seti (v := xs (kI + 3)) (congrArg xs (nI_clamp (by omega))) ?_
  have hPD := pd_as (([zzO (aX 0) 4 [.ref (aX 2), .ref (aX 11), .ref (aX 20), .ref (aX 39), .ref (aX 44), .ref (aX 1), .int iKp, .int iYe, .int iTv], zzI cy (aX 1) 5 fR, zzO (aX 2) 3 [.int (nI (T_nb tA)), .int (nI (T_np tA)), .int (wb (T_wh tA)), .int (wb (T_gn tA)), .int (T_sd tA), .ref (aX 3), .ref (aX 4), .ref (aX 5), .ref (aX 6), .ref (aX 7), .ref (aX 8), .ref (aX 9), .ref (aX 10)], zzI cy (aX 3) 8 (T_wo tA), zzI cy (aX 4) 8 (T_ne tA), zzI cy (aX 5) 8 (T_go tA), zzI cy (aX 6) 8 (T_ag tA), zzI cy (aX 7) 8 (T_re tA), zzI cy (aX 8) 8 (T_me tA), zzI cy (aX 9) 8 (T_te tA), zzI cy (aX 10) 64 (shF (T_kn tA)), zzO (aX 11) 3 [.int (nI (T_nb tB)), .int (nI (T_np tB)), .int (wb (T_wh tB)), .int (wb (T_gn tB)), .int (T_sd tB), .ref (aX 12), .ref (aX 13), .ref (aX 14), .ref (aX 15), .ref (aX 16), .ref (aX 17), .ref (aX 18), .ref (aX 19)], zzI cy (aX 12) 8 (T_wo tB), zzI cy (aX 13) 8 (T_ne tB), zzI cy (aX 14) 8 (T_go tB), zzI cy (aX 15) 8 (T_ag tB), zzI cy (aX 16) 8 (T_re tB), zzI cy (aX 17) 8 (T_me tB), zzI cy (aX 18) 8 (T_te tB), zzI cy (aX 19) 64 (shF (T_kn tB)), zzO (aX 20) 0 [.ref (aX 21), .ref (aX 30), .int iL, .int iBs], zzO (aX 21) 3 [.int (nI (T_nb tU)), .int (nI (T_np tU)), .int (wb (T_wh tU)), .int (wb (T_gn tU)), .int (T_sd tU), .ref (aX 22), .ref (aX 23), .ref (aX 24), .ref (aX 25), .ref (aX 26), .ref (aX 27), .ref (aX 28), .ref (aX 29)], zzI cy (aX 22) 8 (T_wo tU), zzI cy (aX 23) 8 (T_ne tU), zzI cy (aX 24) 8 (T_go tU), zzI cy (aX 25) 8 (T_ag tU), zzI cy (aX 26) 8 (T_re tU), zzI cy (aX 27) 8 (T_me tU), zzI cy (aX 28) 8 (T_te tU), zzI cy (aX 29) 64 (shF (T_kn tU)), zzO (aX 30) 3 [.int (nI (T_nb tV)), .int (nI (T_np tV)), .int (wb (T_wh tV)), .int (wb (T_gn tV)), .int (T_sd tV), .ref (aX 31), .ref (aX 32), .ref (aX 33), .ref (aX 34), .ref (aX 35), .ref (aX 36), .ref (aX 37), .ref (aX 38)], zzI cy (aX 31) 8 (T_wo tV), zzI cy (aX 32) 8 (T_ne tV), zzI cy (aX 33) 8 (T_go tV), zzI cy (aX 34) 8 (T_ag tV), zzI cy (aX 35) 8 (T_re tV), zzI cy (aX 36) 8 (T_me tV), zzI cy (aX 37) 8 (T_te tV), zzI cy (aX 38) 64 (shF (T_kn tV)), zzO (aX 39) 1 [.ref (aX 40), .ref (aX 41), .ref (aX 42), .ref (aX 43)], zzI cy (aX 40) 8 fH, zzI cy (aX 41) 8 fS, zzI cy (aX 42) 8 fA, zzJ cy (aX 43) 320 gE, zzO (aX 44) 2 [.ref (aX 45), .int (nI kZ), .int iT1, .int iT2, .int iT3, .int iT4, .ref (aX 46)], zzB cy (aX 45) 250 fB, zzO (aX 46) 3 [.int (nI (T_nb tD)), .int (nI (T_np tD)), .int (wb (T_wh tD)), .int (wb (T_gn tD)), .int (T_sd tD), .ref (aX 47), .ref (aX 48), .ref (aX 49), .ref (aX 50), .ref (aX 51), .ref (aX 52), .ref (aX 53), .ref (aX 54)], zzI cy (aX 47) 8 (T_wo tD), zzI cy (aX 48) 8 (T_ne tD), zzI cy (aX 49) 8 (T_go tD), zzI cy (aX 50) 8 (T_ag tD), zzI cy (aX 51) 8 (T_re tD), zzI cy (aX 52) 8 (T_me tD), zzI cy (aX 53) 8 (T_te tD), zzI cy (aX 54) 64 (shF (T_kn tD))] : va_W) ++ ((MK cy aM rR rB rO rK fMh fMo fMz gMv fMk fMa fMt kY fMr fM3 fMu fMy fMb eR tM iEn iTk uP uU kAt iTo iFr JFi iFa iSt iLv iWs wL uS0 uS1 uS2 uS3 uS4 iOm) ++ ((oM cy uU) ++ ((oL cy wL) ++ ((oM cy uP) ++ (oM cy uS0 ++ (oM cy uS1 ++ (oM cy uS2 ++ (oM cy uS3 ++ oM cy uS4))))))))) hP hD rfl
  clear hP hD
  obtain ⟨hP, hD⟩ := hPD
  refine cViQ (As := [.int (xs (kI + 1)), .int (xs (kI + 2)), .int (xs (kI + 3))]) (rest := []) (b := (aX 0)) (q := (RX5, TX5, 9)) ⟨hx, hb, hml, hown, hts⟩ (p_X5_row l G cy (H).size (aX 0) (aX 2) (aX 11) (aX 20) (aX 39) (aX 44) (aX 1) iKp iYe iTv fR (aX 40) (aX 41) (aX 42) (aX 43) fH fS gE (xs (kI + 1)) (xs (kI + 2)) (xs (kI + 3)) hsX.2.2.2.1) L_L_13 hN hP hD hS hA (trueIx 0 [true, true, false, false, false, false, false, false, false, false, false, false, false, false, false, false, false, false, false, false, false, false, false, false, false, false, false, false, false, false, false, false, false, false, false, false, false, false, false, true, true, true, false, true]) [false, false, true, true, true, true, true, true, true, true, true, true, true, true, true, true, true, true, true, true, true, true, true, true, true, true, true, true, true, true, true, true, true, true, true, true, true, true, true, false, false, false, true, false, true, true, true, true, true, true, true, true, true, true, true] (sel_eq rfl rfl) (by decide +kernel) rfl 0 4 rfl rfl rfl ⟨Nat.le_of_ble_eq_true rfl, Nat.le_of_ble_eq_true rfl⟩ hl.1 (Nat.le_of_ble_eq_true rfl) dL_law_260 ⟨by show nC + 0 ≤ 600000; omega, by show nS + 0 ≤ 7302250; omega⟩ (fun r_1 u_3 H locs h_2 => ?_)
  clear hP hD hS
  intro hP hD hS
  obtain ⟨fX_4, fY_5, fZ_6, gX_7, rfl, h_8, h_2⟩ := h_2
  have hPD := pd_as (([_, _, _, _, _, _, _, _, _, _, _, _, _, _, _, _, _, _, _, _, _, _, _, _, _, _, _, _, _, _, _, _, _, _, _, _, _, _, _, _, _, _, _, _, _, _, _, _, _, _, zzI cy (aX 1) 5 fX_4, _, zzI cy (aX 40) 8 fY_5, zzI cy (aX 41) 8 fZ_6, zzJ cy (aX 43) 320 gX_7] : va_W) ++ ((MK cy aM rR rB rO rK fMh fMo fMz gMv fMk fMa fMt kY fMr fM3 fMu fMy fMb eR tM iEn iTk uP uU kAt iTo iFr JFi iFa iSt iLv iWs wL uS0 uS1 uS2 uS3 uS4 iOm) ++ ((oM cy uU) ++ ((oL cy wL) ++ ((oM cy uP) ++ (oM cy uS0 ++ (oM cy uS1 ++ (oM cy uS2 ++ (oM cy uS3 ++ oM cy uS4))))))))) hP hD rfl
  clear hP hD
  obtain ⟨hP, hD⟩ := hPD
  have hPD := pt_as (XW cy aX iKp iYe iTv fX_4 tA tB iL iBs tU tV fY_5 fZ_6 fA gX_7 kZ iT1 iT2 iT3 iT4 fB tD) [49, 50, 0, 1, 2, 3, 4, 5, 6, 7, 8, 9, 10, 11, 12, 13, 14, 15, 16, 17, 18, 19, 20, 21, 22, 23, 24, 25, 26, 27, 28, 29, 30, 31, 32, 33, 34, 35, 36, 51, 52, 53, 37, 54, 38, 39, 40, 41, 42, 43, 44, 45, 46, 47, 48] hP hD (by decide +kernel) rfl
  clear hP hD
  obtain ⟨hP, hD⟩ := hPD
  refine lv_pop hx hb dL_law_263 rfl ?_
  refine lv_aload_n hx hb dL_law_264 rfl (lv_at hl 1 rfl) ?_
  refine lv_aload_n hx hb dL_law_265 rfl (lv_at hl 3 rfl) ?_
  refine lv_iload_n hx hb dL_law_266 rfl (lv_at hl 0 rfl) ?_
  refine lv_iconst (v := 1) hx hb dL_law_267 (by decide) ?_
  refine lv_iadd hx hb dL_law_268 ?_
  refine lv_seti (v := nI (kI + 1)) (nI_add _ _) ?_
  refine va_sld hx hb hX hbl hbA hS (vp_in_nI (by omega) (by omega)) dL_law_269 ?_
  refine lv_seti (v := xs (kI + 1)) (congrArg xs (nI_clamp (by omega))) ?_
  refine lv_aload_n hx hb dL_law_270 rfl (lv_at hl 3 rfl) ?_
  refine lv_iload_n hx hb dL_law_271 rfl (lv_at hl 0 rfl) ?_
  refine lv_iconst (v := 2) hx hb dL_law_272 (by decide) ?_
  refine lv_iadd hx hb dL_law_273 ?_
  refine lv_seti (v := nI (kI + 2)) (nI_add _ _) ?_
  refine va_sld hx hb hX hbl hbA hS (vp_in_nI (by omega) (by omega)) dL_law_274 ?_
  refine lv_seti (v := xs (kI + 2)) (congrArg xs (nI_clamp (by omega))) ?_
  refine lv_aload_n hx hb dL_law_275 rfl (lv_at hl 3 rfl) ?_
  refine lv_iload_n hx hb dL_law_276 rfl (lv_at hl 0 rfl) ?_
  refine lv_iconst (v := 3) hx hb dL_law_277 (by decide) ?_
  refine lv_iadd hx hb dL_law_278 ?_
  refine lv_seti (v := nI (kI + 3)) (nI_add _ _) ?_
  refine va_sld hx hb hX hbl hbA hS (vp_in_nI (by omega) (by omega)) dL_law_279 ?_
  refine lv_seti (v := xs (kI + 3)) (congrArg xs (nI_clamp (by omega))) ?_
  replace hP : va_P G CL ((MK cy aM rR rB rO rK fMh fMo fMz gMv fMk fMa fMt kY fMr fM3 fMu fMy fMb eR tM iEn iTk uP uU kAt iTo iFr JFi iFa iSt iLv iWs wL uS0 uS1 uS2 uS3 uS4 iOm) ++ (((oM cy uU) ++ ((oL cy wL) ++ ((oM cy uP) ++ (oM cy uS0 ++ (oM cy uS1 ++ (oM cy uS2 ++ (oM cy uS3 ++ oM cy uS4))))))) ++ (XW cy aX iKp iYe iTv fX_4 tA tB iL iBs tU tV fY_5 fZ_6 fA gX_7 kZ iT1 iT2 iT3 iT4 fB tD))) H := toNP hP
  replace hD : va_D A ((MK cy aM rR rB rO rK fMh fMo fMz gMv fMk fMa fMt kY fMr fM3 fMu fMy fMb eR tM iEn iTk uP uU kAt iTo iFr JFi iFa iSt iLv iWs wL uS0 uS1 uS2 uS3 uS4 iOm) ++ (((oM cy uU) ++ ((oL cy wL) ++ ((oM cy uP) ++ (oM cy uS0 ++ (oM cy uS1 ++ (oM cy uS2 ++ (oM cy uS3 ++ oM cy uS4))))))) ++ (XW cy aX iKp iYe iTv fX_4 tA tB iL iBs tU tV fY_5 fZ_6 fA gX_7 kZ iT1 iT2 iT3 iT4 fB tD))) := toND hD
  have hPD := pd_as (([zzO (aM 0) 5 [.ref (aM 1), .ref (aM 2), .ref (aM 3), .ref (aM 14), .ref (aM 4), .ref (aM 5), .ref (aM 6), .ref (aM 7), .int (nI kY), .ref (aM 8), .int (nI (T_nb tM)), .ref (aM 15), .int (nI (T_np tM)), .ref (aM 16), .ref (aM 17), .int iEn, .int iTk, .int (T_sd tM), ov uP, ov uU, .int (nI kAt), .int iTo, .int iFr, .long JFi, .int iFa, .ref (aM 9), .int iSt, .int iLv, .int iWs, ovL wL, .ref (aM 10), .ref (aM 11), .ref (aM 12), .ref (aM 13), .int iOm], zzI cy (aM 1) 8 fMh, zzI cy (aM 2) 8 fMo, zzI cy (aM 3) 8 fMz, zzJ cy (aM 4) 40 gMv, zzI cy (aM 5) 8 fMk, zzI cy (aM 6) 8 fMa, zzI cy (aM 7) 250 fMt, zzI cy (aM 8) 8 fMr, zzI cy (aM 9) 3 fM3, zzI cy (aM 10) 8 fMu, zzI cy (aM 11) 5 fMy, zzI cy (aM 12) 5 fMb, zzQ cy 5 (aM 13) 6 (sF (refU uS0) (refU uS1) (refU uS2) (refU uS3) (refU uS4)), zzG cy 4 (aM 14) rR, zzJ cy (rR 0) 40 (eR 0), zzJ cy (rR 1) 40 (eR 1), zzJ cy (rR 2) 40 (eR 2), zzJ cy (rR 3) 40 (eR 3), zzJ cy (rR 4) 40 (eR 4), zzJ cy (rR 5) 40 (eR 5), zzJ cy (rR 6) 40 (eR 6), zzJ cy (rR 7) 40 (eR 7), zzG cy 3 (aM 15) rB, zzI cy (rB 0) 4 (bkR tM 0), zzI cy (rB 1) 4 (bkR tM 1), zzI cy (rB 2) 4 (bkR tM 2), zzI cy (rB 3) 4 (bkR tM 3), zzI cy (rB 4) 4 (bkR tM 4), zzI cy (rB 5) 4 (bkR tM 5), zzI cy (rB 6) 4 (bkR tM 6), zzI cy (rB 7) 4 (bkR tM 7), zzG cy 3 (aM 16) rO, zzI cy (rO 0) 5 (onR tM 0), zzI cy (rO 1) 5 (onR tM 1), zzI cy (rO 2) 5 (onR tM 2), zzI cy (rO 3) 5 (onR tM 3), zzI cy (rO 4) 5 (onR tM 4), zzI cy (rO 5) 5 (onR tM 5), zzI cy (rO 6) 5 (onR tM 6), zzI cy (rO 7) 5 (onR tM 7), zzG cy 3 (aM 17) rK, zzI cy (rK 0) 8 (T_kn tM 0), zzI cy (rK 1) 8 (T_kn tM 1), zzI cy (rK 2) 8 (T_kn tM 2), zzI cy (rK 3) 8 (T_kn tM 3), zzI cy (rK 4) 8 (T_kn tM 4), zzI cy (rK 5) 8 (T_kn tM 5), zzI cy (rK 6) 8 (T_kn tM 6), zzI cy (rK 7) 8 (T_kn tM 7)] : va_W) ++ (((oM cy uU) ++ ((oL cy wL) ++ ((oM cy uP) ++ (oM cy uS0 ++ (oM cy uS1 ++ (oM cy uS2 ++ (oM cy uS3 ++ oM cy uS4))))))) ++ (XW cy aX iKp iYe iTv fX_4 tA tB iL iBs tU tV fY_5 fZ_6 fA gX_7 kZ iT1 iT2 iT3 iT4 fB tD))) hP hD rfl
  clear hP hD
  obtain ⟨hP, hD⟩ := hPD
  refine cViQ (As := [.int (xs (kI + 1)), .int (xs (kI + 2)), .int (xs (kI + 3))]) (rest := []) (b := (aM 0)) (q := (RX6, TX6, 35)) ⟨hx, hb, hml, hown, hts⟩ (p_X6_row l G cy (H).size (aM 0) (aM 1) (aM 2) (aM 3) (aM 14) (aM 4) (aM 5) (aM 6) (aM 7) kY (aM 8) tM (aM 15) (aM 16) (aM 17) iEn iTk uP uU kAt iTo iFr JFi iFa (aM 9) iSt iLv iWs (ovL wL) (aM 10) (aM 11) (aM 12) (aM 13) iOm fMh fMo fMz rR eR fMr (xs (kI + 1)) (xs (kI + 2)) (xs (kI + 3)) hsM.2.2.1) L_L_17 hN hP hD hS hA (trueIxs [[true, true, true, true, false, false, false, false, false, false, false, false, false, false, true, true, true, true, true, true, true, true, true], [false, false, false, false, false, false, false, false, true]]) [false, false, false, false, true, true, true, true, false, true, true, true, true, true, false, false, false, false, false, false, false, false, false, true, true, true, true, true, true, true, true, true, true, true, true, true, true, true, true, true, true, true, true, true, true, true, true, true, true, true] (sels_eq rfl rfl) (by decide +kernel) rfl 0 5 rfl rfl rfl ⟨Nat.le_of_ble_eq_true rfl, Nat.le_of_ble_eq_true rfl⟩ hl.1 (Nat.le_of_ble_eq_true rfl) dL_law_280 ⟨by show nC + 0 + 0 ≤ 600000; omega, by show nS + 0 + 0 ≤ 7302250; omega⟩ (fun r_9 u_11 H locs h_10 => ?_)
  clear hP hD hS
  intro hP hD hS
  obtain ⟨fNh_12, fNo_13, fNz_14, eN_15, fNr_16, rfl, h_17, h_10⟩ := h_10
  have hPD := pd_as (([_, _, _, _, _, _, _, _, _, _, _, _, _, _, _, _, _, _, _, _, _, _, _, _, _, _, _, _, _, _, _, _, _, _, _, _, _, zzI cy (aM 1) 8 fNh_12, zzI cy (aM 2) 8 fNo_13, zzI cy (aM 3) 8 fNz_14, _, zzJ cy (rR 0) 40 (eN_15 0), zzJ cy (rR 1) 40 (eN_15 1), zzJ cy (rR 2) 40 (eN_15 2), zzJ cy (rR 3) 40 (eN_15 3), zzJ cy (rR 4) 40 (eN_15 4), zzJ cy (rR 5) 40 (eN_15 5), zzJ cy (rR 6) 40 (eN_15 6), zzJ cy (rR 7) 40 (eN_15 7), zzI cy (aM 8) 8 fNr_16] : va_W) ++ (((oM cy uU) ++ ((oL cy wL) ++ ((oM cy uP) ++ (oM cy uS0 ++ (oM cy uS1 ++ (oM cy uS2 ++ (oM cy uS3 ++ oM cy uS4))))))) ++ (XW cy aX iKp iYe iTv fX_4 tA tB iL iBs tU tV fY_5 fZ_6 fA gX_7 kZ iT1 iT2 iT3 iT4 fB tD))) hP hD rfl
  clear hP hD
  obtain ⟨hP, hD⟩ := hPD
  have hPD := pt_as (MK cy aM rR rB rO rK fNh_12 fNo_13 fNz_14 gMv fMk fMa fMt kY fNr_16 fM3 fMu fMy fMb eN_15 tM iEn iTk uP uU kAt iTo iFr JFi iFa iSt iLv iWs wL uS0 uS1 uS2 uS3 uS4 iOm) [36, 37, 38, 39, 0, 1, 2, 3, 49, 4, 5, 6, 7, 8, 40, 41, 42, 43, 44, 45, 46, 47, 48, 9, 10, 11, 12, 13, 14, 15, 16, 17, 18, 19, 20, 21, 22, 23, 24, 25, 26, 27, 28, 29, 30, 31, 32, 33, 34, 35] hP hD (by decide +kernel) rfl
  clear hP hD
  obtain ⟨hP, hD⟩ := hPD
  replace hP : va_P G CL ((XW cy aX iKp iYe iTv fX_4 tA tB iL iBs tU tV fY_5 fZ_6 fA gX_7 kZ iT1 iT2 iT3 iT4 fB tD) ++ ((MK cy aM rR rB rO rK fNh_12 fNo_13 fNz_14 gMv fMk fMa fMt kY fNr_16 fM3 fMu fMy fMb eN_15 tM iEn iTk uP uU kAt iTo iFr JFi iFa iSt iLv iWs wL uS0 uS1 uS2 uS3 uS4 iOm) ++ ((oM cy uU) ++ ((oL cy wL) ++ ((oM cy uP) ++ (oM cy uS0 ++ (oM cy uS1 ++ (oM cy uS2 ++ (oM cy uS3 ++ oM cy uS4))))))))) H := ofNP hP
  replace hD : va_D A ((XW cy aX iKp iYe iTv fX_4 tA tB iL iBs tU tV fY_5 fZ_6 fA gX_7 kZ iT1 iT2 iT3 iT4 fB tD) ++ ((MK cy aM rR rB rO rK fNh_12 fNo_13 fNz_14 gMv fMk fMa fMt kY fNr_16 fM3 fMu fMy fMb eN_15 tM iEn iTk uP uU kAt iTo iFr JFi iFa iSt iLv iWs wL uS0 uS1 uS2 uS3 uS4 iOm) ++ ((oM cy uU) ++ ((oL cy wL) ++ ((oM cy uP) ++ (oM cy uS0 ++ (oM cy uS1 ++ (oM cy uS2 ++ (oM cy uS3 ++ oM cy uS4))))))))) := ofND hD
  refine lv_pop hx hb dL_law_283 rfl ?_
  refine lv_goto (tgt := 1807) hx hb dL_law_284 (by decide) ?_
  refine W.widen (k := nC + 250) (n := nS + 4440) (by omega) (by omega) ?_
  exact kk _ _ (linv_mk hP hD (sx_row hsX h_8) (sm_row hsM h_17) (⟨⟨hLR.1.1, hLR.1.2.1, row_k hLR.1.2.2 h_8 h_17⟩, hLR.2⟩)) hS
set_option maxHeartbeats 4000000 in
set_option maxRecDepth 100000 in
theorem law_1 {p : Program} {l : Launch} {e : Env} {s : State} {m : MethodId} {below : List Frame} {meth : Method} {c : Code} {b L : Nat} {xs : Nat → Int32} {A : Nat → Prop} {G : va_G} {cy : Nat → ClassId} {aX aM rR rB rO rK : Nat → Nat} (hx : p.tables.exec = Jvm.exec) (hb : c.code = code) (hr : meth.sig.returnType = ret) (hml : c.maxLocals = 4) (hown : s.vm.findClass RL = some m.cls) (hts : ∀ w ∈ BIG, w.before #[Value.ref b] s = true) (hX : va_X b L xs s s.heap) (hbl : b < s.heap.size) (hlocks : meth.locks = false) (hN : KN G cy s) (hA : ∀ q : Nat, s.heap.size ≤ q → A q) (hAn : ∀ q : Nat, A q → s.heap.size ≤ q) (hbA : ¬ A b) (hSO : SO A s s.heap) {H : Heap} {locs : List Loc} {ls : Array Slot} {kI nC nS : Nat} (hkI : kI + 6 ≤ L) (hL : L ≤ 384) (hnC : nC + 250 ≤ 600000) (hnS : nS + 4440 ≤ 7302250) {iKp : Int32} {iYe : Int32} {iTv : Int32} {fR : Nat → Int32} {tA : TA} {tB : TA} {iL : Int32} {iBs : Int32} {tU : TA} {tV : TA} {fH : Nat → Int32} {fS : Nat → Int32} {fA : Nat → Int32} {gE : Nat → Int64} {kZ : Nat} {iT1 : Int32} {iT2 : Int32} {iT3 : Int32} {iT4 : Int32} {fB : Nat → Int32} {tD : TA} {fMh : Nat → Int32} {fMo : Nat → Int32} {fMz : Nat → Int32} {gMv : Nat → Int64} {fMk : Nat → Int32} {fMa : Nat → Int32} {fMt : Nat → Int32} {kY : Nat} {fMr : Nat → Int32} {fM3 : Nat → Int32} {fMu : Nat → Int32} {fMy : Nat → Int32} {fMb : Nat → Int32} {eR : Nat → Nat → Int64} {tM : TA} {iEn : Int32} {iTk : Int32} {uP : UM} {uU : UM} {kAt : Nat} {iTo : Int32} {iFr : Int32} {JFi : Int64} {iFa : Int32} {iSt : Int32} {iLv : Int32} {iWs : Int32} {wL : UL} {uS0 : UM} {uS1 : UM} {uS2 : UM} {uS3 : UM} {uS4 : UM} {iOm : Int32} (hP : va_P G CL ((XW cy aX iKp iYe iTv fR tA tB iL iBs tU tV fH fS fA gE kZ iT1 iT2 iT3 iT4 fB tD) ++ ((MK cy aM rR rB rO rK fMh fMo fMz gMv fMk fMa fMt kY fMr fM3 fMu fMy fMb eR tM iEn iTk uP uU kAt iTo iFr JFi iFa iSt iLv iWs wL uS0 uS1 uS2 uS3 uS4 iOm) ++ ((oM cy uU) ++ ((oL cy wL) ++ ((oM cy uP) ++ (oM cy uS0 ++ (oM cy uS1 ++ (oM cy uS2 ++ (oM cy uS3 ++ oM cy uS4))))))))) H) (hD : va_D A ((XW cy aX iKp iYe iTv fR tA tB iL iBs tU tV fH fS fA gE kZ iT1 iT2 iT3 iT4 fB tD) ++ ((MK cy aM rR rB rO rK fMh fMo fMz gMv fMk fMa fMt kY fMr fM3 fMu fMy fMb eR tM iEn iTk uP uU kAt iTo iFr JFi iFa iSt iLv iWs wL uS0 uS1 uS2 uS3 uS4 iOm) ++ ((oM cy uU) ++ ((oL cy wL) ++ ((oM cy uP) ++ (oM cy uS0 ++ (oM cy uS1 ++ (oM cy uS2 ++ (oM cy uS3 ++ oM cy uS4)))))))))) (hsX : SX tA tB tD fS kZ) (hsM : SM tM uP fMz fMa kY) (hLR : LR iKp tA tB fH fS fA gE kZ fMh fMo fMz fMk fMa eR kY tM uP fB fMt) (hS : va_S A s.heap H locs) (hl : lv_has ls 4 [(3, .int (nI kI)), (2, .ref (aM 0)), (1, .ref (aX 0)), (0, .ref b)]) (kk : ∀ (H : Heap) (locs : List Loc), LINV G cy A H aX aM rR rB rO rK → va_S A s.heap H locs → W p l e room_1 s m #[Value.ref b] below meth c H locs (nC + 250) (nS + 4440) (lw_Z below #[Value.ref b] s) (F0 m 1807 ls [])) : W p l e room_1 s m #[Value.ref b] below meth c H locs nC nS (lw_Z below #[Value.ref b] s) (F0 m 287 ls []) := by
  refine lv_aload_n hx hb dL_law_287 rfl (lv_at hl 2 rfl) ?_
  refine lv_aload_n hx hb dL_law_288 rfl (lv_at hl 3 rfl) ?_
  refine lv_iload_n hx hb dL_law_289 rfl (lv_at hl 0 rfl) ?_
  refine lv_iconst (v := 1) hx hb dL_law_290 (by decide) ?_
  refine lv_iadd hx hb dL_law_291 ?_
  refine lv_seti (v := nI (kI + 1)) (nI_add _ _) ?_
  refine va_sld hx hb hX hbl hbA hS (vp_in_nI (by omega) (by omega)) dL_law_292 ?_
  refine lv_seti (v := xs (kI + 1)) (congrArg xs (nI_clamp (by omega))) ?_
  refine lv_aload_n hx hb dL_law_293 rfl (lv_at hl 3 rfl) ?_
  refine lv_iload_n hx hb dL_law_294 rfl (lv_at hl 0 rfl) ?_
  refine lv_iconst (v := 2) hx hb dL_law_295 (by decide) ?_
  refine lv_iadd hx hb dL_law_296 ?_
  refine lv_seti (v := nI (kI + 2)) (nI_add _ _) ?_
  refine va_sld hx hb hX hbl hbA hS (vp_in_nI (by omega) (by omega)) dL_law_297 ?_
  refine lv_seti (v := xs (kI + 2)) (congrArg xs (nI_clamp (by omega))) ?_
  refine lv_aload_n hx hb dL_law_298 rfl (lv_at hl 3 rfl) ?_
  refine lv_iload_n hx hb dL_law_299 rfl (lv_at hl 0 rfl) ?_
  refine lv_iconst (v := 3) hx hb dL_law_300 (by decide) ?_
  refine lv_iadd hx hb dL_law_301 ?_
  refine lv_seti (v := nI (kI + 3)) (nI_add _ _) ?_
  refine va_sld hx hb hX hbl hbA hS (vp_in_nI (by omega) (by omega)) dL_law_302 ?_
  refine lv_seti (v := xs (kI + 3)) (congrArg xs (nI_clamp (by omega))) ?_
  refine lv_i2l (v := (xs (kI + 3)).toInt64) hx hb dL_law_303 rfl ?_
  refine lv_bipush (v := 32) hx hb dL_law_304 (by decide) ?_
  refine lv_lshl (v := ((xs (kI + 3)).toInt64) <<< ((32 : Int32).toInt64 &&& 63)) hx hb dL_law_306 rfl ?_
  refine lv_aload_n hx hb dL_law_307 rfl (lv_at hl 3 rfl) ?_
  refine lv_iload_n hx hb dL_law_308 rfl (lv_at hl 0 rfl) ?_
  refine lv_iconst (v := 4) hx hb dL_law_309 (by decide) ?_
  refine lv_iadd hx hb dL_law_310 ?_
  refine lv_seti (v := nI (kI + 4)) (nI_add _ _) ?_
  refine va_sld hx hb hX hbl hbA hS (vp_in_nI (by omega) (by omega)) dL_law_311 ?_
  refine lv_seti (v := xs (kI + 4)) (congrArg xs (nI_clamp (by omega))) ?_
  refine lv_i2l (v := (xs (kI + 4)).toInt64) hx hb dL_law_312 rfl ?_
  refine lv_ldc2 hx hb hown (hts _ m_t1392) dL_law_313 ?_
  refine lv_land hx hb dL_law_316 ?_
  refine lv_lor hx hb dL_law_317 ?_
  have hPD := pd_as (([zzO (aX 0) 4 [.ref (aX 2), .ref (aX 11), .ref (aX 20), .ref (aX 39), .ref (aX 44), .ref (aX 1), .int iKp, .int iYe, .int iTv], zzI cy (aX 1) 5 fR, zzO (aX 2) 3 [.int (nI (T_nb tA)), .int (nI (T_np tA)), .int (wb (T_wh tA)), .int (wb (T_gn tA)), .int (T_sd tA), .ref (aX 3), .ref (aX 4), .ref (aX 5), .ref (aX 6), .ref (aX 7), .ref (aX 8), .ref (aX 9), .ref (aX 10)], zzI cy (aX 3) 8 (T_wo tA), zzI cy (aX 4) 8 (T_ne tA), zzI cy (aX 5) 8 (T_go tA), zzI cy (aX 6) 8 (T_ag tA), zzI cy (aX 7) 8 (T_re tA), zzI cy (aX 8) 8 (T_me tA), zzI cy (aX 9) 8 (T_te tA), zzI cy (aX 10) 64 (shF (T_kn tA)), zzO (aX 11) 3 [.int (nI (T_nb tB)), .int (nI (T_np tB)), .int (wb (T_wh tB)), .int (wb (T_gn tB)), .int (T_sd tB), .ref (aX 12), .ref (aX 13), .ref (aX 14), .ref (aX 15), .ref (aX 16), .ref (aX 17), .ref (aX 18), .ref (aX 19)], zzI cy (aX 12) 8 (T_wo tB), zzI cy (aX 13) 8 (T_ne tB), zzI cy (aX 14) 8 (T_go tB), zzI cy (aX 15) 8 (T_ag tB), zzI cy (aX 16) 8 (T_re tB), zzI cy (aX 17) 8 (T_me tB), zzI cy (aX 18) 8 (T_te tB), zzI cy (aX 19) 64 (shF (T_kn tB)), zzO (aX 20) 0 [.ref (aX 21), .ref (aX 30), .int iL, .int iBs], zzO (aX 21) 3 [.int (nI (T_nb tU)), .int (nI (T_np tU)), .int (wb (T_wh tU)), .int (wb (T_gn tU)), .int (T_sd tU), .ref (aX 22), .ref (aX 23), .ref (aX 24), .ref (aX 25), .ref (aX 26), .ref (aX 27), .ref (aX 28), .ref (aX 29)], zzI cy (aX 22) 8 (T_wo tU), zzI cy (aX 23) 8 (T_ne tU), zzI cy (aX 24) 8 (T_go tU), zzI cy (aX 25) 8 (T_ag tU), zzI cy (aX 26) 8 (T_re tU), zzI cy (aX 27) 8 (T_me tU), zzI cy (aX 28) 8 (T_te tU), zzI cy (aX 29) 64 (shF (T_kn tU)), zzO (aX 30) 3 [.int (nI (T_nb tV)), .int (nI (T_np tV)), .int (wb (T_wh tV)), .int (wb (T_gn tV)), .int (T_sd tV), .ref (aX 31), .ref (aX 32), .ref (aX 33), .ref (aX 34), .ref (aX 35), .ref (aX 36), .ref (aX 37), .ref (aX 38)], zzI cy (aX 31) 8 (T_wo tV), zzI cy (aX 32) 8 (T_ne tV), zzI cy (aX 33) 8 (T_go tV), zzI cy (aX 34) 8 (T_ag tV), zzI cy (aX 35) 8 (T_re tV), zzI cy (aX 36) 8 (T_me tV), zzI cy (aX 37) 8 (T_te tV), zzI cy (aX 38) 64 (shF (T_kn tV)), zzO (aX 39) 1 [.ref (aX 40), .ref (aX 41), .ref (aX 42), .ref (aX 43)], zzI cy (aX 40) 8 fH, zzI cy (aX 41) 8 fS, zzI cy (aX 42) 8 fA, zzJ cy (aX 43) 320 gE, zzO (aX 44) 2 [.ref (aX 45), .int (nI kZ), .int iT1, .int iT2, .int iT3, .int iT4, .ref (aX 46)], zzB cy (aX 45) 250 fB, zzO (aX 46) 3 [.int (nI (T_nb tD)), .int (nI (T_np tD)), .int (wb (T_wh tD)), .int (wb (T_gn tD)), .int (T_sd tD), .ref (aX 47), .ref (aX 48), .ref (aX 49), .ref (aX 50), .ref (aX 51), .ref (aX 52), .ref (aX 53), .ref (aX 54)], zzI cy (aX 47) 8 (T_wo tD), zzI cy (aX 48) 8 (T_ne tD), zzI cy (aX 49) 8 (T_go tD), zzI cy (aX 50) 8 (T_ag tD), zzI cy (aX 51) 8 (T_re tD), zzI cy (aX 52) 8 (T_me tD), zzI cy (aX 53) 8 (T_te tD), zzI cy (aX 54) 64 (shF (T_kn tD))] : va_W) ++ ((MK cy aM rR rB rO rK fMh fMo fMz gMv fMk fMa fMt kY fMr fM3 fMu fMy fMb eR tM iEn iTk uP uU kAt iTo iFr JFi iFa iSt iLv iWs wL uS0 uS1 uS2 uS3 uS4 iOm) ++ ((oM cy uU) ++ ((oL cy wL) ++ ((oM cy uP) ++ (oM cy uS0 ++ (oM cy uS1 ++ (oM cy uS2 ++ (oM cy uS3 ++ oM cy uS4))))))))) hP hD rfl
  clear hP hD
  obtain ⟨hP, hD⟩ := hPD
  refine cViQ (As := [.int (xs (kI + 1)), .int (xs (kI + 2)), .long ((((xs (kI + 3)).toInt64) <<< ((32 : Int32).toInt64 &&& 63)) ||| (((xs (kI + 4)).toInt64) &&& 4294967295))]) (rest := []) (b := (aX 0)) (q := (RX5, TX5, 9)) ⟨hx, hb, hml, hown, hts⟩ (p_X5_set l G cy (H).size (aX 0) (aX 2) (aX 11) (aX 20) (aX 39) (aX 44) (aX 1) iKp iYe iTv fR (aX 40) (aX 41) (aX 42) (aX 43) fH fS gE (xs (kI + 1)) (xs (kI + 2)) ((((xs (kI + 3)).toInt64) <<< ((32 : Int32).toInt64 &&& 63)) ||| (((xs (kI + 4)).toInt64) &&& 4294967295)) hsX.2.2.2.1) L_L_20 hN hP hD hS hA (trueIx 0 [true, true, false, false, false, false, false, false, false, false, false, false, false, false, false, false, false, false, false, false, false, false, false, false, false, false, false, false, false, false, false, false, false, false, false, false, false, false, false, true, true, true, false, true]) [false, false, true, true, true, true, true, true, true, true, true, true, true, true, true, true, true, true, true, true, true, true, true, true, true, true, true, true, true, true, true, true, true, true, true, true, true, true, true, false, false, false, true, false, true, true, true, true, true, true, true, true, true, true, true] (sel_eq rfl rfl) (by decide +kernel) rfl 0 4 rfl rfl rfl ⟨Nat.le_of_ble_eq_true rfl, Nat.le_of_ble_eq_true rfl⟩ hl.1 (Nat.le_of_ble_eq_true rfl) dL_law_318 ⟨by show nC + 0 ≤ 600000; omega, by show nS + 0 ≤ 7302250; omega⟩ (fun r_1 u_3 H locs h_2 => ?_)
  clear hP hD hS
  intro hP hD hS
  obtain ⟨fX_4, gX_5, rfl, h_6, h_2⟩ := h_2
  have hPD := pd_as (([_, _, _, _, _, _, _, _, _, _, _, _, _, _, _, _, _, _, _, _, _, _, _, _, _, _, _, _, _, _, _, _, _, _, _, _, _, _, _, _, _, _, _, _, _, _, _, _, _, _, zzI cy (aX 1) 5 fX_4, _, _, _, zzJ cy (aX 43) 320 gX_5] : va_W) ++ ((MK cy aM rR rB rO rK fMh fMo fMz gMv fMk fMa fMt kY fMr fM3 fMu fMy fMb eR tM iEn iTk uP uU kAt iTo iFr JFi iFa iSt iLv iWs wL uS0 uS1 uS2 uS3 uS4 iOm) ++ ((oM cy uU) ++ ((oL cy wL) ++ ((oM cy uP) ++ (oM cy uS0 ++ (oM cy uS1 ++ (oM cy uS2 ++ (oM cy uS3 ++ oM cy uS4))))))))) hP hD rfl
  clear hP hD
  obtain ⟨hP, hD⟩ := hPD
  have hPD := pt_as (XW cy aX iKp iYe iTv fX_4 tA tB iL iBs tU tV fH fS fA gX_5 kZ iT1 iT2 iT3 iT4 fB tD) [49, 50, 0, 1, 2, 3, 4, 5, 6, 7, 8, 9, 10, 11, 12, 13, 14, 15, 16, 17, 18, 19, 20, 21, 22, 23, 24, 25, 26, 27, 28, 29, 30, 31, 32, 33, 34, 35, 36, 51, 52, 53, 37, 54, 38, 39, 40, 41, 42, 43, 44, 45, 46, 47, 48] hP hD (by decide +kernel) rfl
  clear hP hD
  obtain ⟨hP, hD⟩ := hPD
  refine lv_pop hx hb dL_law_321 rfl ?_
  refine lv_aload_n hx hb dL_law_322 rfl (lv_at hl 1 rfl) ?_
  refine lv_aload_n hx hb dL_law_323 rfl (lv_at hl 3 rfl) ?_
  refine lv_iload_n hx hb dL_law_324 rfl (lv_at hl 0 rfl) ?_
  refine lv_iconst (v := 1) hx hb dL_law_325 (by decide) ?_
  refine lv_iadd hx hb dL_law_326 ?_
  refine lv_seti (v := nI (kI + 1)) (nI_add _ _) ?_
  refine va_sld hx hb hX hbl hbA hS (vp_in_nI (by omega) (by omega)) dL_law_327 ?_
  refine lv_seti (v := xs (kI + 1)) (congrArg xs (nI_clamp (by omega))) ?_
  refine lv_aload_n hx hb dL_law_328 rfl (lv_at hl 3 rfl) ?_
  refine lv_iload_n hx hb dL_law_329 rfl (lv_at hl 0 rfl) ?_
  refine lv_iconst (v := 2) hx hb dL_law_330 (by decide) ?_
  refine lv_iadd hx hb dL_law_331 ?_
  refine lv_seti (v := nI (kI + 2)) (nI_add _ _) ?_
  refine va_sld hx hb hX hbl hbA hS (vp_in_nI (by omega) (by omega)) dL_law_332 ?_
  refine lv_seti (v := xs (kI + 2)) (congrArg xs (nI_clamp (by omega))) ?_
  refine lv_aload_n hx hb dL_law_333 rfl (lv_at hl 3 rfl) ?_
  refine lv_iload_n hx hb dL_law_334 rfl (lv_at hl 0 rfl) ?_
  refine lv_iconst (v := 3) hx hb dL_law_335 (by decide) ?_
  refine lv_iadd hx hb dL_law_336 ?_
  refine lv_seti (v := nI (kI + 3)) (nI_add _ _) ?_
  refine va_sld hx hb hX hbl hbA hS (vp_in_nI (by omega) (by omega)) dL_law_337 ?_
  refine lv_seti (v := xs (kI + 3)) (congrArg xs (nI_clamp (by omega))) ?_
  refine lv_i2l (v := (xs (kI + 3)).toInt64) hx hb dL_law_338 rfl ?_
  refine lv_bipush (v := 32) hx hb dL_law_339 (by decide) ?_
  refine lv_lshl (v := ((xs (kI + 3)).toInt64) <<< ((32 : Int32).toInt64 &&& 63)) hx hb dL_law_341 rfl ?_
  refine lv_aload_n hx hb dL_law_342 rfl (lv_at hl 3 rfl) ?_
  refine lv_iload_n hx hb dL_law_343 rfl (lv_at hl 0 rfl) ?_
  refine lv_iconst (v := 4) hx hb dL_law_344 (by decide) ?_
  refine lv_iadd hx hb dL_law_345 ?_
  refine lv_seti (v := nI (kI + 4)) (nI_add _ _) ?_
  refine va_sld hx hb hX hbl hbA hS (vp_in_nI (by omega) (by omega)) dL_law_346 ?_
  refine lv_seti (v := xs (kI + 4)) (congrArg xs (nI_clamp (by omega))) ?_
  refine lv_i2l (v := (xs (kI + 4)).toInt64) hx hb dL_law_347 rfl ?_
  refine lv_ldc2 hx hb hown (hts _ m_t1392) dL_law_348 ?_
  refine lv_land hx hb dL_law_351 ?_
  refine lv_lor hx hb dL_law_352 ?_
  replace hP : va_P G CL ((MK cy aM rR rB rO rK fMh fMo fMz gMv fMk fMa fMt kY fMr fM3 fMu fMy fMb eR tM iEn iTk uP uU kAt iTo iFr JFi iFa iSt iLv iWs wL uS0 uS1 uS2 uS3 uS4 iOm) ++ (((oM cy uU) ++ ((oL cy wL) ++ ((oM cy uP) ++ (oM cy uS0 ++ (oM cy uS1 ++ (oM cy uS2 ++ (oM cy uS3 ++ oM cy uS4))))))) ++ (XW cy aX iKp iYe iTv fX_4 tA tB iL iBs tU tV fH fS fA gX_5 kZ iT1 iT2 iT3 iT4 fB tD))) H := toNP hP
  replace hD : va_D A ((MK cy aM rR rB rO rK fMh fMo fMz gMv fMk fMa fMt kY fMr fM3 fMu fMy fMb eR tM iEn iTk uP uU kAt iTo iFr JFi iFa iSt iLv iWs wL uS0 uS1 uS2 uS3 uS4 iOm) ++ (((oM cy uU) ++ ((oL cy wL) ++ ((oM cy uP) ++ (oM cy uS0 ++ (oM cy uS1 ++ (oM cy uS2 ++ (oM cy uS3 ++ oM cy uS4))))))) ++ (XW cy aX iKp iYe iTv fX_4 tA tB iL iBs tU tV fH fS fA gX_5 kZ iT1 iT2 iT3 iT4 fB tD))) := toND hD
  have hPD := pd_as (([zzO (aM 0) 5 [.ref (aM 1), .ref (aM 2), .ref (aM 3), .ref (aM 14), .ref (aM 4), .ref (aM 5), .ref (aM 6), .ref (aM 7), .int (nI kY), .ref (aM 8), .int (nI (T_nb tM)), .ref (aM 15), .int (nI (T_np tM)), .ref (aM 16), .ref (aM 17), .int iEn, .int iTk, .int (T_sd tM), ov uP, ov uU, .int (nI kAt), .int iTo, .int iFr, .long JFi, .int iFa, .ref (aM 9), .int iSt, .int iLv, .int iWs, ovL wL, .ref (aM 10), .ref (aM 11), .ref (aM 12), .ref (aM 13), .int iOm], zzI cy (aM 1) 8 fMh, zzI cy (aM 2) 8 fMo, zzI cy (aM 3) 8 fMz, zzJ cy (aM 4) 40 gMv, zzI cy (aM 5) 8 fMk, zzI cy (aM 6) 8 fMa, zzI cy (aM 7) 250 fMt, zzI cy (aM 8) 8 fMr, zzI cy (aM 9) 3 fM3, zzI cy (aM 10) 8 fMu, zzI cy (aM 11) 5 fMy, zzI cy (aM 12) 5 fMb, zzQ cy 5 (aM 13) 6 (sF (refU uS0) (refU uS1) (refU uS2) (refU uS3) (refU uS4)), zzG cy 4 (aM 14) rR, zzJ cy (rR 0) 40 (eR 0), zzJ cy (rR 1) 40 (eR 1), zzJ cy (rR 2) 40 (eR 2), zzJ cy (rR 3) 40 (eR 3), zzJ cy (rR 4) 40 (eR 4), zzJ cy (rR 5) 40 (eR 5), zzJ cy (rR 6) 40 (eR 6), zzJ cy (rR 7) 40 (eR 7), zzG cy 3 (aM 15) rB, zzI cy (rB 0) 4 (bkR tM 0), zzI cy (rB 1) 4 (bkR tM 1), zzI cy (rB 2) 4 (bkR tM 2), zzI cy (rB 3) 4 (bkR tM 3), zzI cy (rB 4) 4 (bkR tM 4), zzI cy (rB 5) 4 (bkR tM 5), zzI cy (rB 6) 4 (bkR tM 6), zzI cy (rB 7) 4 (bkR tM 7), zzG cy 3 (aM 16) rO, zzI cy (rO 0) 5 (onR tM 0), zzI cy (rO 1) 5 (onR tM 1), zzI cy (rO 2) 5 (onR tM 2), zzI cy (rO 3) 5 (onR tM 3), zzI cy (rO 4) 5 (onR tM 4), zzI cy (rO 5) 5 (onR tM 5), zzI cy (rO 6) 5 (onR tM 6), zzI cy (rO 7) 5 (onR tM 7), zzG cy 3 (aM 17) rK, zzI cy (rK 0) 8 (T_kn tM 0), zzI cy (rK 1) 8 (T_kn tM 1), zzI cy (rK 2) 8 (T_kn tM 2), zzI cy (rK 3) 8 (T_kn tM 3), zzI cy (rK 4) 8 (T_kn tM 4), zzI cy (rK 5) 8 (T_kn tM 5), zzI cy (rK 6) 8 (T_kn tM 6), zzI cy (rK 7) 8 (T_kn tM 7)] : va_W) ++ (((oM cy uU) ++ ((oL cy wL) ++ ((oM cy uP) ++ (oM cy uS0 ++ (oM cy uS1 ++ (oM cy uS2 ++ (oM cy uS3 ++ oM cy uS4))))))) ++ (XW cy aX iKp iYe iTv fX_4 tA tB iL iBs tU tV fH fS fA gX_5 kZ iT1 iT2 iT3 iT4 fB tD))) hP hD rfl
  clear hP hD
  obtain ⟨hP, hD⟩ := hPD
  refine cViQ (As := [.int (xs (kI + 1)), .int (xs (kI + 2)), .long ((((xs (kI + 3)).toInt64) <<< ((32 : Int32).toInt64 &&& 63)) ||| (((xs (kI + 4)).toInt64) &&& 4294967295))]) (rest := []) (b := (aM 0)) (q := (RX6, TX6, 35)) ⟨hx, hb, hml, hown, hts⟩ (p_X6_set l G cy (H).size (aM 0) (aM 1) (aM 2) (aM 3) (aM 14) (aM 4) (aM 5) (aM 6) (aM 7) kY (aM 8) tM (aM 15) (aM 16) (aM 17) iEn iTk uP uU kAt iTo iFr JFi iFa (aM 9) iSt iLv iWs (ovL wL) (aM 10) (aM 11) (aM 12) (aM 13) iOm fMh fMo fMz rR eR fMr (xs (kI + 1)) (xs (kI + 2)) ((((xs (kI + 3)).toInt64) <<< ((32 : Int32).toInt64 &&& 63)) ||| (((xs (kI + 4)).toInt64) &&& 4294967295)) hsM.2.2.1) L_L_24 hN hP hD hS hA (trueIxs [[true, true, true, true, false, false, false, false, false, false, false, false, false, false, true, true, true, true, true, true, true, true, true], [false, false, false, false, false, false, false, false, true]]) [false, false, false, false, true, true, true, true, false, true, true, true, true, true, false, false, false, false, false, false, false, false, false, true, true, true, true, true, true, true, true, true, true, true, true, true, true, true, true, true, true, true, true, true, true, true, true, true, true, true] (sels_eq rfl rfl) (by decide +kernel) rfl 0 5 rfl rfl rfl ⟨Nat.le_of_ble_eq_true rfl, Nat.le_of_ble_eq_true rfl⟩ hl.1 (Nat.le_of_ble_eq_true rfl) dL_law_353 ⟨by show nC + 0 + 0 ≤ 600000; omega, by show nS + 0 + 0 ≤ 7302250; omega⟩ (fun r_7 u_9 H locs h_8 => ?_)
  clear hP hD hS
  intro hP hD hS
  obtain ⟨eN_10, fNr_11, rfl, h_12, h_8⟩ := h_8
  have hPD := pd_as (([_, _, _, _, _, _, _, _, _, _, _, _, _, _, _, _, _, _, _, _, _, _, _, _, _, _, _, _, _, _, _, _, _, _, _, _, _, _, _, _, _, zzJ cy (rR 0) 40 (eN_10 0), zzJ cy (rR 1) 40 (eN_10 1), zzJ cy (rR 2) 40 (eN_10 2), zzJ cy (rR 3) 40 (eN_10 3), zzJ cy (rR 4) 40 (eN_10 4), zzJ cy (rR 5) 40 (eN_10 5), zzJ cy (rR 6) 40 (eN_10 6), zzJ cy (rR 7) 40 (eN_10 7), zzI cy (aM 8) 8 fNr_11] : va_W) ++ (((oM cy uU) ++ ((oL cy wL) ++ ((oM cy uP) ++ (oM cy uS0 ++ (oM cy uS1 ++ (oM cy uS2 ++ (oM cy uS3 ++ oM cy uS4))))))) ++ (XW cy aX iKp iYe iTv fX_4 tA tB iL iBs tU tV fH fS fA gX_5 kZ iT1 iT2 iT3 iT4 fB tD))) hP hD rfl
  clear hP hD
  obtain ⟨hP, hD⟩ := hPD
  have hPD := pt_as (MK cy aM rR rB rO rK fMh fMo fMz gMv fMk fMa fMt kY fNr_11 fM3 fMu fMy fMb eN_10 tM iEn iTk uP uU kAt iTo iFr JFi iFa iSt iLv iWs wL uS0 uS1 uS2 uS3 uS4 iOm) [36, 37, 38, 39, 0, 1, 2, 3, 49, 4, 5, 6, 7, 8, 40, 41, 42, 43, 44, 45, 46, 47, 48, 9, 10, 11, 12, 13, 14, 15, 16, 17, 18, 19, 20, 21, 22, 23, 24, 25, 26, 27, 28, 29, 30, 31, 32, 33, 34, 35] hP hD (by decide +kernel) rfl
  clear hP hD
  obtain ⟨hP, hD⟩ := hPD
  replace hP : va_P G CL ((XW cy aX iKp iYe iTv fX_4 tA tB iL iBs tU tV fH fS fA gX_5 kZ iT1 iT2 iT3 iT4 fB tD) ++ ((MK cy aM rR rB rO rK fMh fMo fMz gMv fMk fMa fMt kY fNr_11 fM3 fMu fMy fMb eN_10 tM iEn iTk uP uU kAt iTo iFr JFi iFa iSt iLv iWs wL uS0 uS1 uS2 uS3 uS4 iOm) ++ ((oM cy uU) ++ ((oL cy wL) ++ ((oM cy uP) ++ (oM cy uS0 ++ (oM cy uS1 ++ (oM cy uS2 ++ (oM cy uS3 ++ oM cy uS4))))))))) H := ofNP hP
  replace hD : va_D A ((XW cy aX iKp iYe iTv fX_4 tA tB iL iBs tU tV fH fS fA gX_5 kZ iT1 iT2 iT3 iT4 fB tD) ++ ((MK cy aM rR rB rO rK fMh fMo fMz gMv fMk fMa fMt kY fNr_11 fM3 fMu fMy fMb eN_10 tM iEn iTk uP uU kAt iTo iFr JFi iFa iSt iLv iWs wL uS0 uS1 uS2 uS3 uS4 iOm) ++ ((oM cy uU) ++ ((oL cy wL) ++ ((oM cy uP) ++ (oM cy uS0 ++ (oM cy uS1 ++ (oM cy uS2 ++ (oM cy uS3 ++ oM cy uS4))))))))) := ofND hD
  refine lv_pop hx hb dL_law_356 rfl ?_
  refine lv_goto (tgt := 1807) hx hb dL_law_357 (by decide) ?_
  refine W.widen (k := nC + 250) (n := nS + 4440) (by omega) (by omega) ?_
  exact kk _ _ (linv_mk hP hD (hsX) (hsM) (⟨⟨hLR.1.1, hLR.1.2.1, (set_k hLR.1.2.2 h_6 h_12).2⟩, hLR.2⟩)) hS
set_option maxHeartbeats 4000000 in
set_option maxRecDepth 100000 in
theorem law_2 {p : Program} {l : Launch} {e : Env} {s : State} {m : MethodId} {below : List Frame} {meth : Method} {c : Code} {b L : Nat} {xs : Nat → Int32} {A : Nat → Prop} {G : va_G} {cy : Nat → ClassId} {aX aM rR rB rO rK : Nat → Nat} (hx : p.tables.exec = Jvm.exec) (hb : c.code = code) (hr : meth.sig.returnType = ret) (hml : c.maxLocals = 4) (hown : s.vm.findClass RL = some m.cls) (hts : ∀ w ∈ BIG, w.before #[Value.ref b] s = true) (hX : va_X b L xs s s.heap) (hbl : b < s.heap.size) (hlocks : meth.locks = false) (hN : KN G cy s) (hA : ∀ q : Nat, s.heap.size ≤ q → A q) (hAn : ∀ q : Nat, A q → s.heap.size ≤ q) (hbA : ¬ A b) (hSO : SO A s s.heap) {H : Heap} {locs : List Loc} {ls : Array Slot} {kI nC nS : Nat} (hkI : kI + 6 ≤ L) (hL : L ≤ 384) (hnC : nC + 250 ≤ 600000) (hnS : nS + 4440 ≤ 7302250) {iKp : Int32} {iYe : Int32} {iTv : Int32} {fR : Nat → Int32} {tA : TA} {tB : TA} {iL : Int32} {iBs : Int32} {tU : TA} {tV : TA} {fH : Nat → Int32} {fS : Nat → Int32} {fA : Nat → Int32} {gE : Nat → Int64} {kZ : Nat} {iT1 : Int32} {iT2 : Int32} {iT3 : Int32} {iT4 : Int32} {fB : Nat → Int32} {tD : TA} {fMh : Nat → Int32} {fMo : Nat → Int32} {fMz : Nat → Int32} {gMv : Nat → Int64} {fMk : Nat → Int32} {fMa : Nat → Int32} {fMt : Nat → Int32} {kY : Nat} {fMr : Nat → Int32} {fM3 : Nat → Int32} {fMu : Nat → Int32} {fMy : Nat → Int32} {fMb : Nat → Int32} {eR : Nat → Nat → Int64} {tM : TA} {iEn : Int32} {iTk : Int32} {uP : UM} {uU : UM} {kAt : Nat} {iTo : Int32} {iFr : Int32} {JFi : Int64} {iFa : Int32} {iSt : Int32} {iLv : Int32} {iWs : Int32} {wL : UL} {uS0 : UM} {uS1 : UM} {uS2 : UM} {uS3 : UM} {uS4 : UM} {iOm : Int32} (hP : va_P G CL ((XW cy aX iKp iYe iTv fR tA tB iL iBs tU tV fH fS fA gE kZ iT1 iT2 iT3 iT4 fB tD) ++ ((MK cy aM rR rB rO rK fMh fMo fMz gMv fMk fMa fMt kY fMr fM3 fMu fMy fMb eR tM iEn iTk uP uU kAt iTo iFr JFi iFa iSt iLv iWs wL uS0 uS1 uS2 uS3 uS4 iOm) ++ ((oM cy uU) ++ ((oL cy wL) ++ ((oM cy uP) ++ (oM cy uS0 ++ (oM cy uS1 ++ (oM cy uS2 ++ (oM cy uS3 ++ oM cy uS4))))))))) H) (hD : va_D A ((XW cy aX iKp iYe iTv fR tA tB iL iBs tU tV fH fS fA gE kZ iT1 iT2 iT3 iT4 fB tD) ++ ((MK cy aM rR rB rO rK fMh fMo fMz gMv fMk fMa fMt kY fMr fM3 fMu fMy fMb eR tM iEn iTk uP uU kAt iTo iFr JFi iFa iSt iLv iWs wL uS0 uS1 uS2 uS3 uS4 iOm) ++ ((oM cy uU) ++ ((oL cy wL) ++ ((oM cy uP) ++ (oM cy uS0 ++ (oM cy uS1 ++ (oM cy uS2 ++ (oM cy uS3 ++ oM cy uS4)))))))))) (hsX : SX tA tB tD fS kZ) (hsM : SM tM uP fMz fMa kY) (hLR : LR iKp tA tB fH fS fA gE kZ fMh fMo fMz fMk fMa eR kY tM uP fB fMt) (hS : va_S A s.heap H locs) (hl : lv_has ls 4 [(3, .int (nI kI)), (2, .ref (aM 0)), (1, .ref (aX 0)), (0, .ref b)]) (kk : ∀ (H : Heap) (locs : List Loc), LINV G cy A H aX aM rR rB rO rK → va_S A s.heap H locs → W p l e room_1 s m #[Value.ref b] below meth c H locs (nC + 250) (nS + 4440) (lw_Z below #[Value.ref b] s) (F0 m 1807 ls [])) : W p l e room_1 s m #[Value.ref b] below meth c H locs nC nS (lw_Z below #[Value.ref b] s) (F0 m 360 ls []) := by
  refine lv_aload_n hx hb dL_law_360 rfl (lv_at hl 2 rfl) ?_
  refine lv_aload_n hx hb dL_law_361 rfl (lv_at hl 3 rfl) ?_
  refine lv_iload_n hx hb dL_law_362 rfl (lv_at hl 0 rfl) ?_
  refine lv_iconst (v := 1) hx hb dL_law_363 (by decide) ?_
  refine lv_iadd hx hb dL_law_364 ?_
  refine lv_seti (v := nI (kI + 1)) (nI_add _ _) ?_
  refine va_sld hx hb hX hbl hbA hS (vp_in_nI (by omega) (by omega)) dL_law_365 ?_
  refine lv_seti (v := xs (kI + 1)) (congrArg xs (nI_clamp (by omega))) ?_
  refine lv_aload_n hx hb dL_law_366 rfl (lv_at hl 3 rfl) ?_
  refine lv_iload_n hx hb dL_law_367 rfl (lv_at hl 0 rfl) ?_
  refine lv_iconst (v := 2) hx hb dL_law_368 (by decide) ?_
  refine lv_iadd hx hb dL_law_369 ?_
  refine lv_seti (v := nI (kI + 2)) (nI_add _ _) ?_
  refine va_sld hx hb hX hbl hbA hS (vp_in_nI (by omega) (by omega)) dL_law_370 ?_
  refine lv_seti (v := xs (kI + 2)) (congrArg xs (nI_clamp (by omega))) ?_
  refine lv_aload_n hx hb dL_law_371 rfl (lv_at hl 3 rfl) ?_
  refine lv_iload_n hx hb dL_law_372 rfl (lv_at hl 0 rfl) ?_
  refine lv_iconst (v := 3) hx hb dL_law_373 (by decide) ?_
  refine lv_iadd hx hb dL_law_374 ?_
  refine lv_seti (v := nI (kI + 3)) (nI_add _ _) ?_
  refine va_sld hx hb hX hbl hbA hS (vp_in_nI (by omega) (by omega)) dL_law_375 ?_
  refine lv_seti (v := xs (kI + 3)) (congrArg xs (nI_clamp (by omega))) ?_
  refine lv_aload_n hx hb dL_law_376 rfl (lv_at hl 3 rfl) ?_
  refine lv_iload_n hx hb dL_law_377 rfl (lv_at hl 0 rfl) ?_
  refine lv_iconst (v := 4) hx hb dL_law_378 (by decide) ?_
  refine lv_iadd hx hb dL_law_379 ?_
  refine lv_seti (v := nI (kI + 4)) (nI_add _ _) ?_
  refine va_sld hx hb hX hbl hbA hS (vp_in_nI (by omega) (by omega)) dL_law_380 ?_
  refine lv_seti (v := xs (kI + 4)) (congrArg xs (nI_clamp (by omega))) ?_
  refine lv_aload_n hx hb dL_law_381 rfl (lv_at hl 3 rfl) ?_
  refine lv_iload_n hx hb dL_law_382 rfl (lv_at hl 0 rfl) ?_
  refine lv_iconst (v := 5) hx hb dL_law_383 (by decide) ?_
  refine lv_iadd hx hb dL_law_384 ?_
  refine lv_seti (v := nI (kI + 5)) (nI_add _ _) ?_
  refine va_sld hx hb hX hbl hbA hS (vp_in_nI (by omega) (by omega)) dL_law_385 ?_
  refine lv_seti (v := xs (kI + 5)) (congrArg xs (nI_clamp (by omega))) ?_
  have hPD := pd_as (([zzO (aX 0) 4 [.ref (aX 2), .ref (aX 11), .ref (aX 20), .ref (aX 39), .ref (aX 44), .ref (aX 1), .int iKp, .int iYe, .int iTv], zzI cy (aX 1) 5 fR, zzO (aX 2) 3 [.int (nI (T_nb tA)), .int (nI (T_np tA)), .int (wb (T_wh tA)), .int (wb (T_gn tA)), .int (T_sd tA), .ref (aX 3), .ref (aX 4), .ref (aX 5), .ref (aX 6), .ref (aX 7), .ref (aX 8), .ref (aX 9), .ref (aX 10)], zzI cy (aX 3) 8 (T_wo tA), zzI cy (aX 4) 8 (T_ne tA), zzI cy (aX 5) 8 (T_go tA), zzI cy (aX 6) 8 (T_ag tA), zzI cy (aX 7) 8 (T_re tA), zzI cy (aX 8) 8 (T_me tA), zzI cy (aX 9) 8 (T_te tA), zzI cy (aX 10) 64 (shF (T_kn tA)), zzO (aX 11) 3 [.int (nI (T_nb tB)), .int (nI (T_np tB)), .int (wb (T_wh tB)), .int (wb (T_gn tB)), .int (T_sd tB), .ref (aX 12), .ref (aX 13), .ref (aX 14), .ref (aX 15), .ref (aX 16), .ref (aX 17), .ref (aX 18), .ref (aX 19)], zzI cy (aX 12) 8 (T_wo tB), zzI cy (aX 13) 8 (T_ne tB), zzI cy (aX 14) 8 (T_go tB), zzI cy (aX 15) 8 (T_ag tB), zzI cy (aX 16) 8 (T_re tB), zzI cy (aX 17) 8 (T_me tB), zzI cy (aX 18) 8 (T_te tB), zzI cy (aX 19) 64 (shF (T_kn tB)), zzO (aX 20) 0 [.ref (aX 21), .ref (aX 30), .int iL, .int iBs], zzO (aX 21) 3 [.int (nI (T_nb tU)), .int (nI (T_np tU)), .int (wb (T_wh tU)), .int (wb (T_gn tU)), .int (T_sd tU), .ref (aX 22), .ref (aX 23), .ref (aX 24), .ref (aX 25), .ref (aX 26), .ref (aX 27), .ref (aX 28), .ref (aX 29)], zzI cy (aX 22) 8 (T_wo tU), zzI cy (aX 23) 8 (T_ne tU), zzI cy (aX 24) 8 (T_go tU), zzI cy (aX 25) 8 (T_ag tU), zzI cy (aX 26) 8 (T_re tU), zzI cy (aX 27) 8 (T_me tU), zzI cy (aX 28) 8 (T_te tU), zzI cy (aX 29) 64 (shF (T_kn tU)), zzO (aX 30) 3 [.int (nI (T_nb tV)), .int (nI (T_np tV)), .int (wb (T_wh tV)), .int (wb (T_gn tV)), .int (T_sd tV), .ref (aX 31), .ref (aX 32), .ref (aX 33), .ref (aX 34), .ref (aX 35), .ref (aX 36), .ref (aX 37), .ref (aX 38)], zzI cy (aX 31) 8 (T_wo tV), zzI cy (aX 32) 8 (T_ne tV), zzI cy (aX 33) 8 (T_go tV), zzI cy (aX 34) 8 (T_ag tV), zzI cy (aX 35) 8 (T_re tV), zzI cy (aX 36) 8 (T_me tV), zzI cy (aX 37) 8 (T_te tV), zzI cy (aX 38) 64 (shF (T_kn tV)), zzO (aX 39) 1 [.ref (aX 40), .ref (aX 41), .ref (aX 42), .ref (aX 43)], zzI cy (aX 40) 8 fH, zzI cy (aX 41) 8 fS, zzI cy (aX 42) 8 fA, zzJ cy (aX 43) 320 gE, zzO (aX 44) 2 [.ref (aX 45), .int (nI kZ), .int iT1, .int iT2, .int iT3, .int iT4, .ref (aX 46)], zzB cy (aX 45) 250 fB, zzO (aX 46) 3 [.int (nI (T_nb tD)), .int (nI (T_np tD)), .int (wb (T_wh tD)), .int (wb (T_gn tD)), .int (T_sd tD), .ref (aX 47), .ref (aX 48), .ref (aX 49), .ref (aX 50), .ref (aX 51), .ref (aX 52), .ref (aX 53), .ref (aX 54)], zzI cy (aX 47) 8 (T_wo tD), zzI cy (aX 48) 8 (T_ne tD), zzI cy (aX 49) 8 (T_go tD), zzI cy (aX 50) 8 (T_ag tD), zzI cy (aX 51) 8 (T_re tD), zzI cy (aX 52) 8 (T_me tD), zzI cy (aX 53) 8 (T_te tD), zzI cy (aX 54) 64 (shF (T_kn tD))] : va_W) ++ ((MK cy aM rR rB rO rK fMh fMo fMz gMv fMk fMa fMt kY fMr fM3 fMu fMy fMb eR tM iEn iTk uP uU kAt iTo iFr JFi iFa iSt iLv iWs wL uS0 uS1 uS2 uS3 uS4 iOm) ++ ((oM cy uU) ++ ((oL cy wL) ++ ((oM cy uP) ++ (oM cy uS0 ++ (oM cy uS1 ++ (oM cy uS2 ++ (oM cy uS3 ++ oM cy uS4))))))))) hP hD rfl
  clear hP hD
  obtain ⟨hP, hD⟩ := hPD
  refine cViQ (As := [.int (xs (kI + 1)), .int (xs (kI + 2)), .int (xs (kI + 3)), .int (xs (kI + 4)), .int (xs (kI + 5))]) (rest := []) (b := (aX 0)) (q := (RX5, TX5, 9)) ⟨hx, hb, hml, hown, hts⟩ (p_X5_copy l G cy (H).size (aX 0) (aX 2) (aX 11) (aX 20) (aX 39) (aX 44) (aX 1) iKp iYe iTv fR (aX 40) (aX 41) (aX 42) (aX 43) fH fS gE (xs (kI + 1)) (xs (kI + 2)) (xs (kI + 3)) (xs (kI + 4)) (xs (kI + 5)) hsX.2.2.2.1) L_L_25 hN hP hD hS hA (trueIx 0 [true, true, false, false, false, false, false, false, false, false, false, false, false, false, false, false, false, false, false, false, false, false, false, false, false, false, false, false, false, false, false, false, false, false, false, false, false, false, false, true, true, true, false, true]) [false, false, true, true, true, true, true, true, true, true, true, true, true, true, true, true, true, true, true, true, true, true, true, true, true, true, true, true, true, true, true, true, true, true, true, true, true, true, true, false, false, false, true, false, true, true, true, true, true, true, true, true, true, true, true] (sel_eq rfl rfl) (by decide +kernel) rfl 0 4 rfl rfl rfl ⟨Nat.le_of_ble_eq_true rfl, Nat.le_of_ble_eq_true rfl⟩ hl.1 (Nat.le_of_ble_eq_true rfl) dL_law_386 ⟨by show nC + 0 ≤ 600000; omega, by show nS + 0 ≤ 7302250; omega⟩ (fun r_1 u_3 H locs h_2 => ?_)
  clear hP hD hS
  intro hP hD hS
  obtain ⟨fX_4, gX_5, rfl, h_6, h_2⟩ := h_2
  have hPD := pd_as (([_, _, _, _, _, _, _, _, _, _, _, _, _, _, _, _, _, _, _, _, _, _, _, _, _, _, _, _, _, _, _, _, _, _, _, _, _, _, _, _, _, _, _, _, _, _, _, _, _, _, zzI cy (aX 1) 5 fX_4, _, _, _, zzJ cy (aX 43) 320 gX_5] : va_W) ++ ((MK cy aM rR rB rO rK fMh fMo fMz gMv fMk fMa fMt kY fMr fM3 fMu fMy fMb eR tM iEn iTk uP uU kAt iTo iFr JFi iFa iSt iLv iWs wL uS0 uS1 uS2 uS3 uS4 iOm) ++ ((oM cy uU) ++ ((oL cy wL) ++ ((oM cy uP) ++ (oM cy uS0 ++ (oM cy uS1 ++ (oM cy uS2 ++ (oM cy uS3 ++ oM cy uS4))))))))) hP hD rfl
  clear hP hD
  obtain ⟨hP, hD⟩ := hPD
  have hPD := pt_as (XW cy aX iKp iYe iTv fX_4 tA tB iL iBs tU tV fH fS fA gX_5 kZ iT1 iT2 iT3 iT4 fB tD) [49, 50, 0, 1, 2, 3, 4, 5, 6, 7, 8, 9, 10, 11, 12, 13, 14, 15, 16, 17, 18, 19, 20, 21, 22, 23, 24, 25, 26, 27, 28, 29, 30, 31, 32, 33, 34, 35, 36, 51, 52, 53, 37, 54, 38, 39, 40, 41, 42, 43, 44, 45, 46, 47, 48] hP hD (by decide +kernel) rfl
  clear hP hD
  obtain ⟨hP, hD⟩ := hPD
  refine lv_pop hx hb dL_law_389 rfl ?_
  refine lv_aload_n hx hb dL_law_390 rfl (lv_at hl 1 rfl) ?_
  refine lv_aload_n hx hb dL_law_391 rfl (lv_at hl 3 rfl) ?_
  refine lv_iload_n hx hb dL_law_392 rfl (lv_at hl 0 rfl) ?_
  refine lv_iconst (v := 1) hx hb dL_law_393 (by decide) ?_
  refine lv_iadd hx hb dL_law_394 ?_
  refine lv_seti (v := nI (kI + 1)) (nI_add _ _) ?_
  refine va_sld hx hb hX hbl hbA hS (vp_in_nI (by omega) (by omega)) dL_law_395 ?_
  refine lv_seti (v := xs (kI + 1)) (congrArg xs (nI_clamp (by omega))) ?_
  refine lv_aload_n hx hb dL_law_396 rfl (lv_at hl 3 rfl) ?_
  refine lv_iload_n hx hb dL_law_397 rfl (lv_at hl 0 rfl) ?_
  refine lv_iconst (v := 2) hx hb dL_law_398 (by decide) ?_
  refine lv_iadd hx hb dL_law_399 ?_
  refine lv_seti (v := nI (kI + 2)) (nI_add _ _) ?_
  refine va_sld hx hb hX hbl hbA hS (vp_in_nI (by omega) (by omega)) dL_law_400 ?_
  refine lv_seti (v := xs (kI + 2)) (congrArg xs (nI_clamp (by omega))) ?_
  refine lv_aload_n hx hb dL_law_401 rfl (lv_at hl 3 rfl) ?_
  refine lv_iload_n hx hb dL_law_402 rfl (lv_at hl 0 rfl) ?_
  refine lv_iconst (v := 3) hx hb dL_law_403 (by decide) ?_
  refine lv_iadd hx hb dL_law_404 ?_
  refine lv_seti (v := nI (kI + 3)) (nI_add _ _) ?_
  refine va_sld hx hb hX hbl hbA hS (vp_in_nI (by omega) (by omega)) dL_law_405 ?_
  refine lv_seti (v := xs (kI + 3)) (congrArg xs (nI_clamp (by omega))) ?_
  refine lv_aload_n hx hb dL_law_406 rfl (lv_at hl 3 rfl) ?_
  refine lv_iload_n hx hb dL_law_407 rfl (lv_at hl 0 rfl) ?_
  refine lv_iconst (v := 4) hx hb dL_law_408 (by decide) ?_
  refine lv_iadd hx hb dL_law_409 ?_
  refine lv_seti (v := nI (kI + 4)) (nI_add _ _) ?_
  refine va_sld hx hb hX hbl hbA hS (vp_in_nI (by omega) (by omega)) dL_law_410 ?_
  refine lv_seti (v := xs (kI + 4)) (congrArg xs (nI_clamp (by omega))) ?_
  refine lv_aload_n hx hb dL_law_411 rfl (lv_at hl 3 rfl) ?_
  refine lv_iload_n hx hb dL_law_412 rfl (lv_at hl 0 rfl) ?_
  refine lv_iconst (v := 5) hx hb dL_law_413 (by decide) ?_
  refine lv_iadd hx hb dL_law_414 ?_
  refine lv_seti (v := nI (kI + 5)) (nI_add _ _) ?_
  refine va_sld hx hb hX hbl hbA hS (vp_in_nI (by omega) (by omega)) dL_law_415 ?_
  refine lv_seti (v := xs (kI + 5)) (congrArg xs (nI_clamp (by omega))) ?_
  replace hP : va_P G CL ((MK cy aM rR rB rO rK fMh fMo fMz gMv fMk fMa fMt kY fMr fM3 fMu fMy fMb eR tM iEn iTk uP uU kAt iTo iFr JFi iFa iSt iLv iWs wL uS0 uS1 uS2 uS3 uS4 iOm) ++ (((oM cy uU) ++ ((oL cy wL) ++ ((oM cy uP) ++ (oM cy uS0 ++ (oM cy uS1 ++ (oM cy uS2 ++ (oM cy uS3 ++ oM cy uS4))))))) ++ (XW cy aX iKp iYe iTv fX_4 tA tB iL iBs tU tV fH fS fA gX_5 kZ iT1 iT2 iT3 iT4 fB tD))) H := toNP hP
  replace hD : va_D A ((MK cy aM rR rB rO rK fMh fMo fMz gMv fMk fMa fMt kY fMr fM3 fMu fMy fMb eR tM iEn iTk uP uU kAt iTo iFr JFi iFa iSt iLv iWs wL uS0 uS1 uS2 uS3 uS4 iOm) ++ (((oM cy uU) ++ ((oL cy wL) ++ ((oM cy uP) ++ (oM cy uS0 ++ (oM cy uS1 ++ (oM cy uS2 ++ (oM cy uS3 ++ oM cy uS4))))))) ++ (XW cy aX iKp iYe iTv fX_4 tA tB iL iBs tU tV fH fS fA gX_5 kZ iT1 iT2 iT3 iT4 fB tD))) := toND hD
  have hPD := pd_as (([zzO (aM 0) 5 [.ref (aM 1), .ref (aM 2), .ref (aM 3), .ref (aM 14), .ref (aM 4), .ref (aM 5), .ref (aM 6), .ref (aM 7), .int (nI kY), .ref (aM 8), .int (nI (T_nb tM)), .ref (aM 15), .int (nI (T_np tM)), .ref (aM 16), .ref (aM 17), .int iEn, .int iTk, .int (T_sd tM), ov uP, ov uU, .int (nI kAt), .int iTo, .int iFr, .long JFi, .int iFa, .ref (aM 9), .int iSt, .int iLv, .int iWs, ovL wL, .ref (aM 10), .ref (aM 11), .ref (aM 12), .ref (aM 13), .int iOm], zzI cy (aM 1) 8 fMh, zzI cy (aM 2) 8 fMo, zzI cy (aM 3) 8 fMz, zzJ cy (aM 4) 40 gMv, zzI cy (aM 5) 8 fMk, zzI cy (aM 6) 8 fMa, zzI cy (aM 7) 250 fMt, zzI cy (aM 8) 8 fMr, zzI cy (aM 9) 3 fM3, zzI cy (aM 10) 8 fMu, zzI cy (aM 11) 5 fMy, zzI cy (aM 12) 5 fMb, zzQ cy 5 (aM 13) 6 (sF (refU uS0) (refU uS1) (refU uS2) (refU uS3) (refU uS4)), zzG cy 4 (aM 14) rR, zzJ cy (rR 0) 40 (eR 0), zzJ cy (rR 1) 40 (eR 1), zzJ cy (rR 2) 40 (eR 2), zzJ cy (rR 3) 40 (eR 3), zzJ cy (rR 4) 40 (eR 4), zzJ cy (rR 5) 40 (eR 5), zzJ cy (rR 6) 40 (eR 6), zzJ cy (rR 7) 40 (eR 7), zzG cy 3 (aM 15) rB, zzI cy (rB 0) 4 (bkR tM 0), zzI cy (rB 1) 4 (bkR tM 1), zzI cy (rB 2) 4 (bkR tM 2), zzI cy (rB 3) 4 (bkR tM 3), zzI cy (rB 4) 4 (bkR tM 4), zzI cy (rB 5) 4 (bkR tM 5), zzI cy (rB 6) 4 (bkR tM 6), zzI cy (rB 7) 4 (bkR tM 7), zzG cy 3 (aM 16) rO, zzI cy (rO 0) 5 (onR tM 0), zzI cy (rO 1) 5 (onR tM 1), zzI cy (rO 2) 5 (onR tM 2), zzI cy (rO 3) 5 (onR tM 3), zzI cy (rO 4) 5 (onR tM 4), zzI cy (rO 5) 5 (onR tM 5), zzI cy (rO 6) 5 (onR tM 6), zzI cy (rO 7) 5 (onR tM 7), zzG cy 3 (aM 17) rK, zzI cy (rK 0) 8 (T_kn tM 0), zzI cy (rK 1) 8 (T_kn tM 1), zzI cy (rK 2) 8 (T_kn tM 2), zzI cy (rK 3) 8 (T_kn tM 3), zzI cy (rK 4) 8 (T_kn tM 4), zzI cy (rK 5) 8 (T_kn tM 5), zzI cy (rK 6) 8 (T_kn tM 6), zzI cy (rK 7) 8 (T_kn tM 7)] : va_W) ++ (((oM cy uU) ++ ((oL cy wL) ++ ((oM cy uP) ++ (oM cy uS0 ++ (oM cy uS1 ++ (oM cy uS2 ++ (oM cy uS3 ++ oM cy uS4))))))) ++ (XW cy aX iKp iYe iTv fX_4 tA tB iL iBs tU tV fH fS fA gX_5 kZ iT1 iT2 iT3 iT4 fB tD))) hP hD rfl
  clear hP hD
  obtain ⟨hP, hD⟩ := hPD
  refine cViQ (As := [.int (xs (kI + 1)), .int (xs (kI + 2)), .int (xs (kI + 3)), .int (xs (kI + 4)), .int (xs (kI + 5))]) (rest := []) (b := (aM 0)) (q := (RX6, TX6, 35)) ⟨hx, hb, hml, hown, hts⟩ (p_X6_copy l G cy (H).size (aM 0) (aM 1) (aM 2) (aM 3) (aM 14) (aM 4) (aM 5) (aM 6) (aM 7) kY (aM 8) tM (aM 15) (aM 16) (aM 17) iEn iTk uP uU kAt iTo iFr JFi iFa (aM 9) iSt iLv iWs (ovL wL) (aM 10) (aM 11) (aM 12) (aM 13) iOm fMh fMo fMz rR eR gMv fMr (xs (kI + 1)) (xs (kI + 2)) (xs (kI + 3)) (xs (kI + 4)) (xs (kI + 5)) hsM.2.2.1) L_L_29 hN hP hD hS hA (trueIxs [[true, true, true, true, false, false, false, false, false, false, false, false, false, false, true, true, true, true, true, true, true, true, true], [false, false, false, false, true, false, false, false, true]]) [false, false, false, false, false, true, true, true, false, true, true, true, true, true, false, false, false, false, false, false, false, false, false, true, true, true, true, true, true, true, true, true, true, true, true, true, true, true, true, true, true, true, true, true, true, true, true, true, true, true] (sels_eq rfl rfl) (by decide +kernel) rfl 0 5 rfl rfl rfl ⟨Nat.le_of_ble_eq_true rfl, Nat.le_of_ble_eq_true rfl⟩ hl.1 (Nat.le_of_ble_eq_true rfl) dL_law_416 ⟨by show nC + 0 + 0 ≤ 600000; omega, by show nS + 0 + 0 ≤ 7302250; omega⟩ (fun r_7 u_9 H locs h_8 => ?_)
  clear hP hD hS
  intro hP hD hS
  obtain ⟨eN_10, gNv_11, fNr_12, rfl, h_13, h_8⟩ := h_8
  have hPD := pd_as (([_, _, _, _, _, _, _, _, _, _, _, _, _, _, _, _, _, _, _, _, _, _, _, _, _, _, _, _, _, _, _, _, _, _, _, _, _, _, _, _, zzJ cy (rR 0) 40 (eN_10 0), zzJ cy (rR 1) 40 (eN_10 1), zzJ cy (rR 2) 40 (eN_10 2), zzJ cy (rR 3) 40 (eN_10 3), zzJ cy (rR 4) 40 (eN_10 4), zzJ cy (rR 5) 40 (eN_10 5), zzJ cy (rR 6) 40 (eN_10 6), zzJ cy (rR 7) 40 (eN_10 7), zzJ cy (aM 4) 40 gNv_11, zzI cy (aM 8) 8 fNr_12] : va_W) ++ (((oM cy uU) ++ ((oL cy wL) ++ ((oM cy uP) ++ (oM cy uS0 ++ (oM cy uS1 ++ (oM cy uS2 ++ (oM cy uS3 ++ oM cy uS4))))))) ++ (XW cy aX iKp iYe iTv fX_4 tA tB iL iBs tU tV fH fS fA gX_5 kZ iT1 iT2 iT3 iT4 fB tD))) hP hD rfl
  clear hP hD
  obtain ⟨hP, hD⟩ := hPD
  have hPD := pt_as (MK cy aM rR rB rO rK fMh fMo fMz gNv_11 fMk fMa fMt kY fNr_12 fM3 fMu fMy fMb eN_10 tM iEn iTk uP uU kAt iTo iFr JFi iFa iSt iLv iWs wL uS0 uS1 uS2 uS3 uS4 iOm) [35, 36, 37, 38, 48, 0, 1, 2, 49, 3, 4, 5, 6, 7, 39, 40, 41, 42, 43, 44, 45, 46, 47, 8, 9, 10, 11, 12, 13, 14, 15, 16, 17, 18, 19, 20, 21, 22, 23, 24, 25, 26, 27, 28, 29, 30, 31, 32, 33, 34] hP hD (by decide +kernel) rfl
  clear hP hD
  obtain ⟨hP, hD⟩ := hPD
  replace hP : va_P G CL ((XW cy aX iKp iYe iTv fX_4 tA tB iL iBs tU tV fH fS fA gX_5 kZ iT1 iT2 iT3 iT4 fB tD) ++ ((MK cy aM rR rB rO rK fMh fMo fMz gNv_11 fMk fMa fMt kY fNr_12 fM3 fMu fMy fMb eN_10 tM iEn iTk uP uU kAt iTo iFr JFi iFa iSt iLv iWs wL uS0 uS1 uS2 uS3 uS4 iOm) ++ ((oM cy uU) ++ ((oL cy wL) ++ ((oM cy uP) ++ (oM cy uS0 ++ (oM cy uS1 ++ (oM cy uS2 ++ (oM cy uS3 ++ oM cy uS4))))))))) H := ofNP hP
  replace hD : va_D A ((XW cy aX iKp iYe iTv fX_4 tA tB iL iBs tU tV fH fS fA gX_5 kZ iT1 iT2 iT3 iT4 fB tD) ++ ((MK cy aM rR rB rO rK fMh fMo fMz gNv_11 fMk fMa fMt kY fNr_12 fM3 fMu fMy fMb eN_10 tM iEn iTk uP uU kAt iTo iFr JFi iFa iSt iLv iWs wL uS0 uS1 uS2 uS3 uS4 iOm) ++ ((oM cy uU) ++ ((oL cy wL) ++ ((oM cy uP) ++ (oM cy uS0 ++ (oM cy uS1 ++ (oM cy uS2 ++ (oM cy uS3 ++ oM cy uS4))))))))) := ofND hD
  refine lv_pop hx hb dL_law_419 rfl ?_
  refine lv_goto (tgt := 1807) hx hb dL_law_420 (by decide) ?_
  refine W.widen (k := nC + 250) (n := nS + 4440) (by omega) (by omega) ?_
  exact kk _ _ (linv_mk hP hD (hsX) (hsM) (⟨⟨hLR.1.1, hLR.1.2.1, (copy_k hsX.2.2.2.1 hLR.1.2.2 h_6 h_13).2⟩, hLR.2⟩)) hS
set_option maxHeartbeats 4000000 in
set_option maxRecDepth 100000 in
theorem law_3 {p : Program} {l : Launch} {e : Env} {s : State} {m : MethodId} {below : List Frame} {meth : Method} {c : Code} {b L : Nat} {xs : Nat → Int32} {A : Nat → Prop} {G : va_G} {cy : Nat → ClassId} {aX aM rR rB rO rK : Nat → Nat} (hx : p.tables.exec = Jvm.exec) (hb : c.code = code) (hr : meth.sig.returnType = ret) (hml : c.maxLocals = 4) (hown : s.vm.findClass RL = some m.cls) (hts : ∀ w ∈ BIG, w.before #[Value.ref b] s = true) (hX : va_X b L xs s s.heap) (hbl : b < s.heap.size) (hlocks : meth.locks = false) (hN : KN G cy s) (hA : ∀ q : Nat, s.heap.size ≤ q → A q) (hAn : ∀ q : Nat, A q → s.heap.size ≤ q) (hbA : ¬ A b) (hSO : SO A s s.heap) {H : Heap} {locs : List Loc} {ls : Array Slot} {kI nC nS : Nat} (hkI : kI + 6 ≤ L) (hL : L ≤ 384) (hnC : nC + 250 ≤ 600000) (hnS : nS + 4440 ≤ 7302250) {iKp : Int32} {iYe : Int32} {iTv : Int32} {fR : Nat → Int32} {tA : TA} {tB : TA} {iL : Int32} {iBs : Int32} {tU : TA} {tV : TA} {fH : Nat → Int32} {fS : Nat → Int32} {fA : Nat → Int32} {gE : Nat → Int64} {kZ : Nat} {iT1 : Int32} {iT2 : Int32} {iT3 : Int32} {iT4 : Int32} {fB : Nat → Int32} {tD : TA} {fMh : Nat → Int32} {fMo : Nat → Int32} {fMz : Nat → Int32} {gMv : Nat → Int64} {fMk : Nat → Int32} {fMa : Nat → Int32} {fMt : Nat → Int32} {kY : Nat} {fMr : Nat → Int32} {fM3 : Nat → Int32} {fMu : Nat → Int32} {fMy : Nat → Int32} {fMb : Nat → Int32} {eR : Nat → Nat → Int64} {tM : TA} {iEn : Int32} {iTk : Int32} {uP : UM} {uU : UM} {kAt : Nat} {iTo : Int32} {iFr : Int32} {JFi : Int64} {iFa : Int32} {iSt : Int32} {iLv : Int32} {iWs : Int32} {wL : UL} {uS0 : UM} {uS1 : UM} {uS2 : UM} {uS3 : UM} {uS4 : UM} {iOm : Int32} (hP : va_P G CL ((XW cy aX iKp iYe iTv fR tA tB iL iBs tU tV fH fS fA gE kZ iT1 iT2 iT3 iT4 fB tD) ++ ((MK cy aM rR rB rO rK fMh fMo fMz gMv fMk fMa fMt kY fMr fM3 fMu fMy fMb eR tM iEn iTk uP uU kAt iTo iFr JFi iFa iSt iLv iWs wL uS0 uS1 uS2 uS3 uS4 iOm) ++ ((oM cy uU) ++ ((oL cy wL) ++ ((oM cy uP) ++ (oM cy uS0 ++ (oM cy uS1 ++ (oM cy uS2 ++ (oM cy uS3 ++ oM cy uS4))))))))) H) (hD : va_D A ((XW cy aX iKp iYe iTv fR tA tB iL iBs tU tV fH fS fA gE kZ iT1 iT2 iT3 iT4 fB tD) ++ ((MK cy aM rR rB rO rK fMh fMo fMz gMv fMk fMa fMt kY fMr fM3 fMu fMy fMb eR tM iEn iTk uP uU kAt iTo iFr JFi iFa iSt iLv iWs wL uS0 uS1 uS2 uS3 uS4 iOm) ++ ((oM cy uU) ++ ((oL cy wL) ++ ((oM cy uP) ++ (oM cy uS0 ++ (oM cy uS1 ++ (oM cy uS2 ++ (oM cy uS3 ++ oM cy uS4)))))))))) (hsX : SX tA tB tD fS kZ) (hsM : SM tM uP fMz fMa kY) (hLR : LR iKp tA tB fH fS fA gE kZ fMh fMo fMz fMk fMa eR kY tM uP fB fMt) (hS : va_S A s.heap H locs) (hl : lv_has ls 4 [(3, .int (nI kI)), (2, .ref (aM 0)), (1, .ref (aX 0)), (0, .ref b)]) (kk : ∀ (H : Heap) (locs : List Loc), LINV G cy A H aX aM rR rB rO rK → va_S A s.heap H locs → W p l e room_1 s m #[Value.ref b] below meth c H locs (nC + 250) (nS + 4440) (lw_Z below #[Value.ref b] s) (F0 m 1807 ls [])) : W p l e room_1 s m #[Value.ref b] below meth c H locs nC nS (lw_Z below #[Value.ref b] s) (F0 m 423 ls []) := by
  refine lv_aload_n hx hb dL_law_423 rfl (lv_at hl 2 rfl) ?_
  refine lv_aload_n hx hb dL_law_424 rfl (lv_at hl 3 rfl) ?_
  refine lv_iload_n hx hb dL_law_425 rfl (lv_at hl 0 rfl) ?_
  refine lv_iconst (v := 1) hx hb dL_law_426 (by decide) ?_
  refine lv_iadd hx hb dL_law_427 ?_
  refine lv_seti (v := nI (kI + 1)) (nI_add _ _) ?_
  refine va_sld hx hb hX hbl hbA hS (vp_in_nI (by omega) (by omega)) dL_law_428 ?_
  refine lv_seti (v := xs (kI + 1)) (congrArg xs (nI_clamp (by omega))) ?_
  refine lv_aload_n hx hb dL_law_429 rfl (lv_at hl 3 rfl) ?_
  refine lv_iload_n hx hb dL_law_430 rfl (lv_at hl 0 rfl) ?_
  refine lv_iconst (v := 2) hx hb dL_law_431 (by decide) ?_
  refine lv_iadd hx hb dL_law_432 ?_
  refine lv_seti (v := nI (kI + 2)) (nI_add _ _) ?_
  refine va_sld hx hb hX hbl hbA hS (vp_in_nI (by omega) (by omega)) dL_law_433 ?_
  refine lv_seti (v := xs (kI + 2)) (congrArg xs (nI_clamp (by omega))) ?_
  have hP2 : va_P G CL ([zzO (aX 0) 4 [.ref (aX 2), .ref (aX 11), .ref (aX 20), .ref (aX 39), .ref (aX 44), .ref (aX 1), .int iKp, .int iYe, .int iTv], zzI cy (aX 1) 5 fR, zzO (aX 2) 3 [.int (nI (T_nb tA)), .int (nI (T_np tA)), .int (wb (T_wh tA)), .int (wb (T_gn tA)), .int (T_sd tA), .ref (aX 3), .ref (aX 4), .ref (aX 5), .ref (aX 6), .ref (aX 7), .ref (aX 8), .ref (aX 9), .ref (aX 10)], zzI cy (aX 3) 8 (T_wo tA), zzI cy (aX 4) 8 (T_ne tA), zzI cy (aX 5) 8 (T_go tA), zzI cy (aX 6) 8 (T_ag tA), zzI cy (aX 7) 8 (T_re tA), zzI cy (aX 8) 8 (T_me tA), zzI cy (aX 9) 8 (T_te tA), zzI cy (aX 10) 64 (shF (T_kn tA)), zzO (aX 11) 3 [.int (nI (T_nb tB)), .int (nI (T_np tB)), .int (wb (T_wh tB)), .int (wb (T_gn tB)), .int (T_sd tB), .ref (aX 12), .ref (aX 13), .ref (aX 14), .ref (aX 15), .ref (aX 16), .ref (aX 17), .ref (aX 18), .ref (aX 19)], zzI cy (aX 12) 8 (T_wo tB), zzI cy (aX 13) 8 (T_ne tB), zzI cy (aX 14) 8 (T_go tB), zzI cy (aX 15) 8 (T_ag tB), zzI cy (aX 16) 8 (T_re tB), zzI cy (aX 17) 8 (T_me tB), zzI cy (aX 18) 8 (T_te tB), zzI cy (aX 19) 64 (shF (T_kn tB)), zzO (aX 20) 0 [.ref (aX 21), .ref (aX 30), .int iL, .int iBs], zzO (aX 21) 3 [.int (nI (T_nb tU)), .int (nI (T_np tU)), .int (wb (T_wh tU)), .int (wb (T_gn tU)), .int (T_sd tU), .ref (aX 22), .ref (aX 23), .ref (aX 24), .ref (aX 25), .ref (aX 26), .ref (aX 27), .ref (aX 28), .ref (aX 29)], zzI cy (aX 22) 8 (T_wo tU), zzI cy (aX 23) 8 (T_ne tU), zzI cy (aX 24) 8 (T_go tU), zzI cy (aX 25) 8 (T_ag tU), zzI cy (aX 26) 8 (T_re tU), zzI cy (aX 27) 8 (T_me tU), zzI cy (aX 28) 8 (T_te tU), zzI cy (aX 29) 64 (shF (T_kn tU)), zzO (aX 30) 3 [.int (nI (T_nb tV)), .int (nI (T_np tV)), .int (wb (T_wh tV)), .int (wb (T_gn tV)), .int (T_sd tV), .ref (aX 31), .ref (aX 32), .ref (aX 33), .ref (aX 34), .ref (aX 35), .ref (aX 36), .ref (aX 37), .ref (aX 38)], zzI cy (aX 31) 8 (T_wo tV), zzI cy (aX 32) 8 (T_ne tV), zzI cy (aX 33) 8 (T_go tV), zzI cy (aX 34) 8 (T_ag tV), zzI cy (aX 35) 8 (T_re tV), zzI cy (aX 36) 8 (T_me tV), zzI cy (aX 37) 8 (T_te tV), zzI cy (aX 38) 64 (shF (T_kn tV)), zzO (aX 39) 1 [.ref (aX 40), .ref (aX 41), .ref (aX 42), .ref (aX 43)], zzI cy (aX 40) 8 fH, zzI cy (aX 41) 8 fS, zzI cy (aX 42) 8 fA, zzJ cy (aX 43) 320 gE, zzO (aX 44) 2 [.ref (aX 45), .int (nI kZ), .int iT1, .int iT2, .int iT3, .int iT4, .ref (aX 46)], zzB cy (aX 45) 250 fB, zzO (aX 46) 3 [.int (nI (T_nb tD)), .int (nI (T_np tD)), .int (wb (T_wh tD)), .int (wb (T_gn tD)), .int (T_sd tD), .ref (aX 47), .ref (aX 48), .ref (aX 49), .ref (aX 50), .ref (aX 51), .ref (aX 52), .ref (aX 53), .ref (aX 54)], zzI cy (aX 47) 8 (T_wo tD), zzI cy (aX 48) 8 (T_ne tD), zzI cy (aX 49) 8 (T_go tD), zzI cy (aX 50) 8 (T_ag tD), zzI cy (aX 51) 8 (T_re tD), zzI cy (aX 52) 8 (T_me tD), zzI cy (aX 53) 8 (T_te tD), zzI cy (aX 54) 64 (shF (T_kn tD))] ++ ((MK cy aM rR rB rO rK fMh fMo fMz gMv fMk fMa fMt kY fMr fM3 fMu fMy fMb eR tM iEn iTk uP uU kAt iTo iFr JFi iFa iSt iLv iWs wL uS0 uS1 uS2 uS3 uS4 iOm) ++ ((oM cy uU) ++ ((oL cy wL) ++ ((oM cy uP) ++ (oM cy uS0 ++ (oM cy uS1 ++ (oM cy uS2 ++ (oM cy uS3 ++ oM cy uS4))))))))) H := hP
  refine kRl (rV (As := [.int (xs (kI + 1)), .int (xs (kI + 2))]) (rest := []) (b := (aX 0)) ⟨hx, hb, hml, hown, hts⟩ (p_X5_element l G cy (aX 0) (aX 2) (aX 11) (aX 20) (aX 39) (aX 44) (aX 1) iKp iYe iTv (aX 40) (aX 41) (aX 42) (aX 43) fH fS gE (xs (kI + 1)) (xs (kI + 2)) hsX.2.2.2.1) L_L_30 (preRV (q := (RX5, TX5, 9)) hN hP2 (trueIx 0 [true, false, false, false, false, false, false, false, false, false, false, false, false, false, false, false, false, false, false, false, false, false, false, false, false, false, false, false, false, false, false, false, false, false, false, false, false, false, false, true, true, true, false, true]) (sel_fm rfl rfl) 0 4 rfl rfl) rfl ⟨Nat.le_of_ble_eq_true rfl, Nat.le_of_ble_eq_true rfl⟩ hl.1 (Nat.le_of_ble_eq_true rfl) dL_law_434 ⟨by show nC + 0 ≤ 600000; omega, by show nS + 0 ≤ 7302250; omega⟩) (fun r_1 h_2 => ?_)
  clear hP2
  refine lv_pop2_2 hx hb dL_law_437 rfl ?_
  refine lv_aload_n hx hb dL_law_438 rfl (lv_at hl 1 rfl) ?_
  refine lv_aload_n hx hb dL_law_439 rfl (lv_at hl 3 rfl) ?_
  refine lv_iload_n hx hb dL_law_440 rfl (lv_at hl 0 rfl) ?_
  refine lv_iconst (v := 1) hx hb dL_law_441 (by decide) ?_
  refine lv_iadd hx hb dL_law_442 ?_
  refine lv_seti (v := nI (kI + 1)) (nI_add _ _) ?_
  refine va_sld hx hb hX hbl hbA hS (vp_in_nI (by omega) (by omega)) dL_law_443 ?_
  refine lv_seti (v := xs (kI + 1)) (congrArg xs (nI_clamp (by omega))) ?_
  refine lv_aload_n hx hb dL_law_444 rfl (lv_at hl 3 rfl) ?_
  refine lv_iload_n hx hb dL_law_445 rfl (lv_at hl 0 rfl) ?_
  refine lv_iconst (v := 2) hx hb dL_law_446 (by decide) ?_
  refine lv_iadd hx hb dL_law_447 ?_
  refine lv_seti (v := nI (kI + 2)) (nI_add _ _) ?_
  refine va_sld hx hb hX hbl hbA hS (vp_in_nI (by omega) (by omega)) dL_law_448 ?_
  refine lv_seti (v := xs (kI + 2)) (congrArg xs (nI_clamp (by omega))) ?_
  replace hP : va_P G CL ((MK cy aM rR rB rO rK fMh fMo fMz gMv fMk fMa fMt kY fMr fM3 fMu fMy fMb eR tM iEn iTk uP uU kAt iTo iFr JFi iFa iSt iLv iWs wL uS0 uS1 uS2 uS3 uS4 iOm) ++ (((oM cy uU) ++ ((oL cy wL) ++ ((oM cy uP) ++ (oM cy uS0 ++ (oM cy uS1 ++ (oM cy uS2 ++ (oM cy uS3 ++ oM cy uS4))))))) ++ (XW cy aX iKp iYe iTv fR tA tB iL iBs tU tV fH fS fA gE kZ iT1 iT2 iT3 iT4 fB tD))) H := toNP hP
  replace hD : va_D A ((MK cy aM rR rB rO rK fMh fMo fMz gMv fMk fMa fMt kY fMr fM3 fMu fMy fMb eR tM iEn iTk uP uU kAt iTo iFr JFi iFa iSt iLv iWs wL uS0 uS1 uS2 uS3 uS4 iOm) ++ (((oM cy uU) ++ ((oL cy wL) ++ ((oM cy uP) ++ (oM cy uS0 ++ (oM cy uS1 ++ (oM cy uS2 ++ (oM cy uS3 ++ oM cy uS4))))))) ++ (XW cy aX iKp iYe iTv fR tA tB iL iBs tU tV fH fS fA gE kZ iT1 iT2 iT3 iT4 fB tD))) := toND hD
  have hP2 : va_P G CL ([zzO (aM 0) 5 [.ref (aM 1), .ref (aM 2), .ref (aM 3), .ref (aM 14), .ref (aM 4), .ref (aM 5), .ref (aM 6), .ref (aM 7), .int (nI kY), .ref (aM 8), .int (nI (T_nb tM)), .ref (aM 15), .int (nI (T_np tM)), .ref (aM 16), .ref (aM 17), .int iEn, .int iTk, .int (T_sd tM), ov uP, ov uU, .int (nI kAt), .int iTo, .int iFr, .long JFi, .int iFa, .ref (aM 9), .int iSt, .int iLv, .int iWs, ovL wL, .ref (aM 10), .ref (aM 11), .ref (aM 12), .ref (aM 13), .int iOm], zzI cy (aM 1) 8 fMh, zzI cy (aM 2) 8 fMo, zzI cy (aM 3) 8 fMz, zzJ cy (aM 4) 40 gMv, zzI cy (aM 5) 8 fMk, zzI cy (aM 6) 8 fMa, zzI cy (aM 7) 250 fMt, zzI cy (aM 8) 8 fMr, zzI cy (aM 9) 3 fM3, zzI cy (aM 10) 8 fMu, zzI cy (aM 11) 5 fMy, zzI cy (aM 12) 5 fMb, zzQ cy 5 (aM 13) 6 (sF (refU uS0) (refU uS1) (refU uS2) (refU uS3) (refU uS4)), zzG cy 4 (aM 14) rR, zzJ cy (rR 0) 40 (eR 0), zzJ cy (rR 1) 40 (eR 1), zzJ cy (rR 2) 40 (eR 2), zzJ cy (rR 3) 40 (eR 3), zzJ cy (rR 4) 40 (eR 4), zzJ cy (rR 5) 40 (eR 5), zzJ cy (rR 6) 40 (eR 6), zzJ cy (rR 7) 40 (eR 7), zzG cy 3 (aM 15) rB, zzI cy (rB 0) 4 (bkR tM 0), zzI cy (rB 1) 4 (bkR tM 1), zzI cy (rB 2) 4 (bkR tM 2), zzI cy (rB 3) 4 (bkR tM 3), zzI cy (rB 4) 4 (bkR tM 4), zzI cy (rB 5) 4 (bkR tM 5), zzI cy (rB 6) 4 (bkR tM 6), zzI cy (rB 7) 4 (bkR tM 7), zzG cy 3 (aM 16) rO, zzI cy (rO 0) 5 (onR tM 0), zzI cy (rO 1) 5 (onR tM 1), zzI cy (rO 2) 5 (onR tM 2), zzI cy (rO 3) 5 (onR tM 3), zzI cy (rO 4) 5 (onR tM 4), zzI cy (rO 5) 5 (onR tM 5), zzI cy (rO 6) 5 (onR tM 6), zzI cy (rO 7) 5 (onR tM 7), zzG cy 3 (aM 17) rK, zzI cy (rK 0) 8 (T_kn tM 0), zzI cy (rK 1) 8 (T_kn tM 1), zzI cy (rK 2) 8 (T_kn tM 2), zzI cy (rK 3) 8 (T_kn tM 3), zzI cy (rK 4) 8 (T_kn tM 4), zzI cy (rK 5) 8 (T_kn tM 5), zzI cy (rK 6) 8 (T_kn tM 6), zzI cy (rK 7) 8 (T_kn tM 7)] ++ (((oM cy uU) ++ ((oL cy wL) ++ ((oM cy uP) ++ (oM cy uS0 ++ (oM cy uS1 ++ (oM cy uS2 ++ (oM cy uS3 ++ oM cy uS4))))))) ++ (XW cy aX iKp iYe iTv fR tA tB iL iBs tU tV fH fS fA gE kZ iT1 iT2 iT3 iT4 fB tD))) H := hP
  refine kRl (rV (As := [.int (xs (kI + 1)), .int (xs (kI + 2))]) (rest := []) (b := (aM 0)) ⟨hx, hb, hml, hown, hts⟩ (p_X6_element l G cy (aM 0) (aM 1) (aM 2) (aM 3) (aM 14) (aM 4) (aM 5) (aM 6) (aM 7) kY (aM 8) tM (aM 15) (aM 16) (aM 17) iEn iTk uP uU kAt iTo iFr JFi iFa (aM 9) iSt iLv iWs (ovL wL) (aM 10) (aM 11) (aM 12) (aM 13) iOm fMh fMz rR eR (xs (kI + 1)) (xs (kI + 2)) hsM.2.2.1) L_L_34 (preRV (q := (RX6, TX6, 35)) hN hP2 (trueIx 0 [true, true, false, true, false, false, false, false, false, false, false, false, false, false, true, true, true, true, true, true, true, true, true]) (sel_fm rfl rfl) 0 5 rfl rfl) rfl ⟨Nat.le_of_ble_eq_true rfl, Nat.le_of_ble_eq_true rfl⟩ hl.1 (Nat.le_of_ble_eq_true rfl) dL_law_449 ⟨by show nC + 0 ≤ 600000; omega, by show nS + 0 ≤ 7302250; omega⟩) (fun r_3 h_4 => ?_)
  clear hP2
  replace hP : va_P G CL ((XW cy aX iKp iYe iTv fR tA tB iL iBs tU tV fH fS fA gE kZ iT1 iT2 iT3 iT4 fB tD) ++ ((MK cy aM rR rB rO rK fMh fMo fMz gMv fMk fMa fMt kY fMr fM3 fMu fMy fMb eR tM iEn iTk uP uU kAt iTo iFr JFi iFa iSt iLv iWs wL uS0 uS1 uS2 uS3 uS4 iOm) ++ ((oM cy uU) ++ ((oL cy wL) ++ ((oM cy uP) ++ (oM cy uS0 ++ (oM cy uS1 ++ (oM cy uS2 ++ (oM cy uS3 ++ oM cy uS4))))))))) H := ofNP hP
  replace hD : va_D A ((XW cy aX iKp iYe iTv fR tA tB iL iBs tU tV fH fS fA gE kZ iT1 iT2 iT3 iT4 fB tD) ++ ((MK cy aM rR rB rO rK fMh fMo fMz gMv fMk fMa fMt kY fMr fM3 fMu fMy fMb eR tM iEn iTk uP uU kAt iTo iFr JFi iFa iSt iLv iWs wL uS0 uS1 uS2 uS3 uS4 iOm) ++ ((oM cy uU) ++ ((oL cy wL) ++ ((oM cy uP) ++ (oM cy uS0 ++ (oM cy uS1 ++ (oM cy uS2 ++ (oM cy uS3 ++ oM cy uS4))))))))) := ofND hD
  refine lv_pop2_2 hx hb dL_law_452 rfl ?_
  refine lv_goto (tgt := 1807) hx hb dL_law_453 (by decide) ?_
  refine W.widen (k := nC + 250) (n := nS + 4440) (by omega) (by omega) ?_
  exact kk _ _ (linv_mk hP hD (hsX) (hsM) (⟨hLR.1, hLR.2⟩)) hS
set_option maxHeartbeats 4000000 in
set_option maxRecDepth 100000 in
theorem law_4 {p : Program} {l : Launch} {e : Env} {s : State} {m : MethodId} {below : List Frame} {meth : Method} {c : Code} {b L : Nat} {xs : Nat → Int32} {A : Nat → Prop} {G : va_G} {cy : Nat → ClassId} {aX aM rR rB rO rK : Nat → Nat} (hx : p.tables.exec = Jvm.exec) (hb : c.code = code) (hr : meth.sig.returnType = ret) (hml : c.maxLocals = 4) (hown : s.vm.findClass RL = some m.cls) (hts : ∀ w ∈ BIG, w.before #[Value.ref b] s = true) (hX : va_X b L xs s s.heap) (hbl : b < s.heap.size) (hlocks : meth.locks = false) (hN : KN G cy s) (hA : ∀ q : Nat, s.heap.size ≤ q → A q) (hAn : ∀ q : Nat, A q → s.heap.size ≤ q) (hbA : ¬ A b) (hSO : SO A s s.heap) {H : Heap} {locs : List Loc} {ls : Array Slot} {kI nC nS : Nat} (hkI : kI + 6 ≤ L) (hL : L ≤ 384) (hnC : nC + 250 ≤ 600000) (hnS : nS + 4440 ≤ 7302250) {iKp : Int32} {iYe : Int32} {iTv : Int32} {fR : Nat → Int32} {tA : TA} {tB : TA} {iL : Int32} {iBs : Int32} {tU : TA} {tV : TA} {fH : Nat → Int32} {fS : Nat → Int32} {fA : Nat → Int32} {gE : Nat → Int64} {kZ : Nat} {iT1 : Int32} {iT2 : Int32} {iT3 : Int32} {iT4 : Int32} {fB : Nat → Int32} {tD : TA} {fMh : Nat → Int32} {fMo : Nat → Int32} {fMz : Nat → Int32} {gMv : Nat → Int64} {fMk : Nat → Int32} {fMa : Nat → Int32} {fMt : Nat → Int32} {kY : Nat} {fMr : Nat → Int32} {fM3 : Nat → Int32} {fMu : Nat → Int32} {fMy : Nat → Int32} {fMb : Nat → Int32} {eR : Nat → Nat → Int64} {tM : TA} {iEn : Int32} {iTk : Int32} {uP : UM} {uU : UM} {kAt : Nat} {iTo : Int32} {iFr : Int32} {JFi : Int64} {iFa : Int32} {iSt : Int32} {iLv : Int32} {iWs : Int32} {wL : UL} {uS0 : UM} {uS1 : UM} {uS2 : UM} {uS3 : UM} {uS4 : UM} {iOm : Int32} (hP : va_P G CL ((XW cy aX iKp iYe iTv fR tA tB iL iBs tU tV fH fS fA gE kZ iT1 iT2 iT3 iT4 fB tD) ++ ((MK cy aM rR rB rO rK fMh fMo fMz gMv fMk fMa fMt kY fMr fM3 fMu fMy fMb eR tM iEn iTk uP uU kAt iTo iFr JFi iFa iSt iLv iWs wL uS0 uS1 uS2 uS3 uS4 iOm) ++ ((oM cy uU) ++ ((oL cy wL) ++ ((oM cy uP) ++ (oM cy uS0 ++ (oM cy uS1 ++ (oM cy uS2 ++ (oM cy uS3 ++ oM cy uS4))))))))) H) (hD : va_D A ((XW cy aX iKp iYe iTv fR tA tB iL iBs tU tV fH fS fA gE kZ iT1 iT2 iT3 iT4 fB tD) ++ ((MK cy aM rR rB rO rK fMh fMo fMz gMv fMk fMa fMt kY fMr fM3 fMu fMy fMb eR tM iEn iTk uP uU kAt iTo iFr JFi iFa iSt iLv iWs wL uS0 uS1 uS2 uS3 uS4 iOm) ++ ((oM cy uU) ++ ((oL cy wL) ++ ((oM cy uP) ++ (oM cy uS0 ++ (oM cy uS1 ++ (oM cy uS2 ++ (oM cy uS3 ++ oM cy uS4)))))))))) (hsX : SX tA tB tD fS kZ) (hsM : SM tM uP fMz fMa kY) (hLR : LR iKp tA tB fH fS fA gE kZ fMh fMo fMz fMk fMa eR kY tM uP fB fMt) (hS : va_S A s.heap H locs) (hl : lv_has ls 4 [(3, .int (nI kI)), (2, .ref (aM 0)), (1, .ref (aX 0)), (0, .ref b)]) (kk : ∀ (H : Heap) (locs : List Loc), LINV G cy A H aX aM rR rB rO rK → va_S A s.heap H locs → W p l e room_1 s m #[Value.ref b] below meth c H locs (nC + 250) (nS + 4440) (lw_Z below #[Value.ref b] s) (F0 m 1807 ls [])) : W p l e room_1 s m #[Value.ref b] below meth c H locs nC nS (lw_Z below #[Value.ref b] s) (F0 m 456 ls []) := by
  refine lv_aload_n hx hb dL_law_456 rfl (lv_at hl 2 rfl) ?_
  refine lv_aload_n hx hb dL_law_457 rfl (lv_at hl 3 rfl) ?_
  refine lv_iload_n hx hb dL_law_458 rfl (lv_at hl 0 rfl) ?_
  refine lv_iconst (v := 1) hx hb dL_law_459 (by decide) ?_
  refine lv_iadd hx hb dL_law_460 ?_
  refine lv_seti (v := nI (kI + 1)) (nI_add _ _) ?_
  refine va_sld hx hb hX hbl hbA hS (vp_in_nI (by omega) (by omega)) dL_law_461 ?_
  refine lv_seti (v := xs (kI + 1)) (congrArg xs (nI_clamp (by omega))) ?_
  have hP2 : va_P G CL ([zzO (aX 0) 4 [.ref (aX 2), .ref (aX 11), .ref (aX 20), .ref (aX 39), .ref (aX 44), .ref (aX 1), .int iKp, .int iYe, .int iTv], zzI cy (aX 1) 5 fR, zzO (aX 2) 3 [.int (nI (T_nb tA)), .int (nI (T_np tA)), .int (wb (T_wh tA)), .int (wb (T_gn tA)), .int (T_sd tA), .ref (aX 3), .ref (aX 4), .ref (aX 5), .ref (aX 6), .ref (aX 7), .ref (aX 8), .ref (aX 9), .ref (aX 10)], zzI cy (aX 3) 8 (T_wo tA), zzI cy (aX 4) 8 (T_ne tA), zzI cy (aX 5) 8 (T_go tA), zzI cy (aX 6) 8 (T_ag tA), zzI cy (aX 7) 8 (T_re tA), zzI cy (aX 8) 8 (T_me tA), zzI cy (aX 9) 8 (T_te tA), zzI cy (aX 10) 64 (shF (T_kn tA)), zzO (aX 11) 3 [.int (nI (T_nb tB)), .int (nI (T_np tB)), .int (wb (T_wh tB)), .int (wb (T_gn tB)), .int (T_sd tB), .ref (aX 12), .ref (aX 13), .ref (aX 14), .ref (aX 15), .ref (aX 16), .ref (aX 17), .ref (aX 18), .ref (aX 19)], zzI cy (aX 12) 8 (T_wo tB), zzI cy (aX 13) 8 (T_ne tB), zzI cy (aX 14) 8 (T_go tB), zzI cy (aX 15) 8 (T_ag tB), zzI cy (aX 16) 8 (T_re tB), zzI cy (aX 17) 8 (T_me tB), zzI cy (aX 18) 8 (T_te tB), zzI cy (aX 19) 64 (shF (T_kn tB)), zzO (aX 20) 0 [.ref (aX 21), .ref (aX 30), .int iL, .int iBs], zzO (aX 21) 3 [.int (nI (T_nb tU)), .int (nI (T_np tU)), .int (wb (T_wh tU)), .int (wb (T_gn tU)), .int (T_sd tU), .ref (aX 22), .ref (aX 23), .ref (aX 24), .ref (aX 25), .ref (aX 26), .ref (aX 27), .ref (aX 28), .ref (aX 29)], zzI cy (aX 22) 8 (T_wo tU), zzI cy (aX 23) 8 (T_ne tU), zzI cy (aX 24) 8 (T_go tU), zzI cy (aX 25) 8 (T_ag tU), zzI cy (aX 26) 8 (T_re tU), zzI cy (aX 27) 8 (T_me tU), zzI cy (aX 28) 8 (T_te tU), zzI cy (aX 29) 64 (shF (T_kn tU)), zzO (aX 30) 3 [.int (nI (T_nb tV)), .int (nI (T_np tV)), .int (wb (T_wh tV)), .int (wb (T_gn tV)), .int (T_sd tV), .ref (aX 31), .ref (aX 32), .ref (aX 33), .ref (aX 34), .ref (aX 35), .ref (aX 36), .ref (aX 37), .ref (aX 38)], zzI cy (aX 31) 8 (T_wo tV), zzI cy (aX 32) 8 (T_ne tV), zzI cy (aX 33) 8 (T_go tV), zzI cy (aX 34) 8 (T_ag tV), zzI cy (aX 35) 8 (T_re tV), zzI cy (aX 36) 8 (T_me tV), zzI cy (aX 37) 8 (T_te tV), zzI cy (aX 38) 64 (shF (T_kn tV)), zzO (aX 39) 1 [.ref (aX 40), .ref (aX 41), .ref (aX 42), .ref (aX 43)], zzI cy (aX 40) 8 fH, zzI cy (aX 41) 8 fS, zzI cy (aX 42) 8 fA, zzJ cy (aX 43) 320 gE, zzO (aX 44) 2 [.ref (aX 45), .int (nI kZ), .int iT1, .int iT2, .int iT3, .int iT4, .ref (aX 46)], zzB cy (aX 45) 250 fB, zzO (aX 46) 3 [.int (nI (T_nb tD)), .int (nI (T_np tD)), .int (wb (T_wh tD)), .int (wb (T_gn tD)), .int (T_sd tD), .ref (aX 47), .ref (aX 48), .ref (aX 49), .ref (aX 50), .ref (aX 51), .ref (aX 52), .ref (aX 53), .ref (aX 54)], zzI cy (aX 47) 8 (T_wo tD), zzI cy (aX 48) 8 (T_ne tD), zzI cy (aX 49) 8 (T_go tD), zzI cy (aX 50) 8 (T_ag tD), zzI cy (aX 51) 8 (T_re tD), zzI cy (aX 52) 8 (T_me tD), zzI cy (aX 53) 8 (T_te tD), zzI cy (aX 54) 64 (shF (T_kn tD))] ++ ((MK cy aM rR rB rO rK fMh fMo fMz gMv fMk fMa fMt kY fMr fM3 fMu fMy fMb eR tM iEn iTk uP uU kAt iTo iFr JFi iFa iSt iLv iWs wL uS0 uS1 uS2 uS3 uS4 iOm) ++ ((oM cy uU) ++ ((oL cy wL) ++ ((oM cy uP) ++ (oM cy uS0 ++ (oM cy uS1 ++ (oM cy uS2 ++ (oM cy uS3 ++ oM cy uS4))))))))) H := hP
  refine kRi (rV (As := [.int (xs (kI + 1))]) (rest := []) (b := (aX 0)) ⟨hx, hb, hml, hown, hts⟩ (p_X5_holds l G cy (aX 0) (aX 2) (aX 11) (aX 20) (aX 39) (aX 44) (aX 1) iKp iYe iTv (aX 40) (aX 41) (aX 42) (aX 43) fH (xs (kI + 1))) L_L_35 (preRV (q := (RX5, TX5, 9)) hN hP2 (trueIx 0 [true, false, false, false, false, false, false, false, false, false, false, false, false, false, false, false, false, false, false, false, false, false, false, false, false, false, false, false, false, false, false, false, false, false, false, false, false, false, false, true, true]) (sel_fm rfl rfl) 0 4 rfl rfl) rfl ⟨Nat.le_of_ble_eq_true rfl, Nat.le_of_ble_eq_true rfl⟩ hl.1 (Nat.le_of_ble_eq_true rfl) dL_law_462 ⟨by show nC + 0 ≤ 600000; omega, by show nS + 0 ≤ 7302250; omega⟩) (fun r_1 h_2 => ?_)
  clear hP2
  refine lv_pop hx hb dL_law_465 rfl ?_
  refine lv_aload_n hx hb dL_law_466 rfl (lv_at hl 1 rfl) ?_
  refine lv_aload_n hx hb dL_law_467 rfl (lv_at hl 3 rfl) ?_
  refine lv_iload_n hx hb dL_law_468 rfl (lv_at hl 0 rfl) ?_
  refine lv_iconst (v := 1) hx hb dL_law_469 (by decide) ?_
  refine lv_iadd hx hb dL_law_470 ?_
  refine lv_seti (v := nI (kI + 1)) (nI_add _ _) ?_
  refine va_sld hx hb hX hbl hbA hS (vp_in_nI (by omega) (by omega)) dL_law_471 ?_
  refine lv_seti (v := xs (kI + 1)) (congrArg xs (nI_clamp (by omega))) ?_
  replace hP : va_P G CL ((MK cy aM rR rB rO rK fMh fMo fMz gMv fMk fMa fMt kY fMr fM3 fMu fMy fMb eR tM iEn iTk uP uU kAt iTo iFr JFi iFa iSt iLv iWs wL uS0 uS1 uS2 uS3 uS4 iOm) ++ (((oM cy uU) ++ ((oL cy wL) ++ ((oM cy uP) ++ (oM cy uS0 ++ (oM cy uS1 ++ (oM cy uS2 ++ (oM cy uS3 ++ oM cy uS4))))))) ++ (XW cy aX iKp iYe iTv fR tA tB iL iBs tU tV fH fS fA gE kZ iT1 iT2 iT3 iT4 fB tD))) H := toNP hP
  replace hD : va_D A ((MK cy aM rR rB rO rK fMh fMo fMz gMv fMk fMa fMt kY fMr fM3 fMu fMy fMb eR tM iEn iTk uP uU kAt iTo iFr JFi iFa iSt iLv iWs wL uS0 uS1 uS2 uS3 uS4 iOm) ++ (((oM cy uU) ++ ((oL cy wL) ++ ((oM cy uP) ++ (oM cy uS0 ++ (oM cy uS1 ++ (oM cy uS2 ++ (oM cy uS3 ++ oM cy uS4))))))) ++ (XW cy aX iKp iYe iTv fR tA tB iL iBs tU tV fH fS fA gE kZ iT1 iT2 iT3 iT4 fB tD))) := toND hD
  have hP2 : va_P G CL ([zzO (aM 0) 5 [.ref (aM 1), .ref (aM 2), .ref (aM 3), .ref (aM 14), .ref (aM 4), .ref (aM 5), .ref (aM 6), .ref (aM 7), .int (nI kY), .ref (aM 8), .int (nI (T_nb tM)), .ref (aM 15), .int (nI (T_np tM)), .ref (aM 16), .ref (aM 17), .int iEn, .int iTk, .int (T_sd tM), ov uP, ov uU, .int (nI kAt), .int iTo, .int iFr, .long JFi, .int iFa, .ref (aM 9), .int iSt, .int iLv, .int iWs, ovL wL, .ref (aM 10), .ref (aM 11), .ref (aM 12), .ref (aM 13), .int iOm], zzI cy (aM 1) 8 fMh, zzI cy (aM 2) 8 fMo, zzI cy (aM 3) 8 fMz, zzJ cy (aM 4) 40 gMv, zzI cy (aM 5) 8 fMk, zzI cy (aM 6) 8 fMa, zzI cy (aM 7) 250 fMt, zzI cy (aM 8) 8 fMr, zzI cy (aM 9) 3 fM3, zzI cy (aM 10) 8 fMu, zzI cy (aM 11) 5 fMy, zzI cy (aM 12) 5 fMb, zzQ cy 5 (aM 13) 6 (sF (refU uS0) (refU uS1) (refU uS2) (refU uS3) (refU uS4)), zzG cy 4 (aM 14) rR, zzJ cy (rR 0) 40 (eR 0), zzJ cy (rR 1) 40 (eR 1), zzJ cy (rR 2) 40 (eR 2), zzJ cy (rR 3) 40 (eR 3), zzJ cy (rR 4) 40 (eR 4), zzJ cy (rR 5) 40 (eR 5), zzJ cy (rR 6) 40 (eR 6), zzJ cy (rR 7) 40 (eR 7), zzG cy 3 (aM 15) rB, zzI cy (rB 0) 4 (bkR tM 0), zzI cy (rB 1) 4 (bkR tM 1), zzI cy (rB 2) 4 (bkR tM 2), zzI cy (rB 3) 4 (bkR tM 3), zzI cy (rB 4) 4 (bkR tM 4), zzI cy (rB 5) 4 (bkR tM 5), zzI cy (rB 6) 4 (bkR tM 6), zzI cy (rB 7) 4 (bkR tM 7), zzG cy 3 (aM 16) rO, zzI cy (rO 0) 5 (onR tM 0), zzI cy (rO 1) 5 (onR tM 1), zzI cy (rO 2) 5 (onR tM 2), zzI cy (rO 3) 5 (onR tM 3), zzI cy (rO 4) 5 (onR tM 4), zzI cy (rO 5) 5 (onR tM 5), zzI cy (rO 6) 5 (onR tM 6), zzI cy (rO 7) 5 (onR tM 7), zzG cy 3 (aM 17) rK, zzI cy (rK 0) 8 (T_kn tM 0), zzI cy (rK 1) 8 (T_kn tM 1), zzI cy (rK 2) 8 (T_kn tM 2), zzI cy (rK 3) 8 (T_kn tM 3), zzI cy (rK 4) 8 (T_kn tM 4), zzI cy (rK 5) 8 (T_kn tM 5), zzI cy (rK 6) 8 (T_kn tM 6), zzI cy (rK 7) 8 (T_kn tM 7)] ++ (((oM cy uU) ++ ((oL cy wL) ++ ((oM cy uP) ++ (oM cy uS0 ++ (oM cy uS1 ++ (oM cy uS2 ++ (oM cy uS3 ++ oM cy uS4))))))) ++ (XW cy aX iKp iYe iTv fR tA tB iL iBs tU tV fH fS fA gE kZ iT1 iT2 iT3 iT4 fB tD))) H := hP
  refine kRi (rV (As := [.int (xs (kI + 1))]) (rest := []) (b := (aM 0)) ⟨hx, hb, hml, hown, hts⟩ (p_X6_holds l G cy (aM 0) (aM 1) (aM 2) (aM 3) (aM 14) (aM 4) (aM 5) (aM 6) (aM 7) kY (aM 8) tM (aM 15) (aM 16) (aM 17) iEn iTk uP uU kAt iTo iFr JFi iFa (aM 9) iSt iLv iWs (ovL wL) (aM 10) (aM 11) (aM 12) (aM 13) iOm fMh fMo fMk (xs (kI + 1))) L_L_39 (preRV (q := (RX6, TX6, 35)) hN hP2 (trueIx 0 [true, true, true, false, false, true]) (sel_fm rfl rfl) 0 5 rfl rfl) rfl ⟨Nat.le_of_ble_eq_true rfl, Nat.le_of_ble_eq_true rfl⟩ hl.1 (Nat.le_of_ble_eq_true rfl) dL_law_472 ⟨by show nC + 0 ≤ 600000; omega, by show nS + 0 ≤ 7302250; omega⟩) (fun r_3 h_4 => ?_)
  clear hP2
  replace hP : va_P G CL ((XW cy aX iKp iYe iTv fR tA tB iL iBs tU tV fH fS fA gE kZ iT1 iT2 iT3 iT4 fB tD) ++ ((MK cy aM rR rB rO rK fMh fMo fMz gMv fMk fMa fMt kY fMr fM3 fMu fMy fMb eR tM iEn iTk uP uU kAt iTo iFr JFi iFa iSt iLv iWs wL uS0 uS1 uS2 uS3 uS4 iOm) ++ ((oM cy uU) ++ ((oL cy wL) ++ ((oM cy uP) ++ (oM cy uS0 ++ (oM cy uS1 ++ (oM cy uS2 ++ (oM cy uS3 ++ oM cy uS4))))))))) H := ofNP hP
  replace hD : va_D A ((XW cy aX iKp iYe iTv fR tA tB iL iBs tU tV fH fS fA gE kZ iT1 iT2 iT3 iT4 fB tD) ++ ((MK cy aM rR rB rO rK fMh fMo fMz gMv fMk fMa fMt kY fMr fM3 fMu fMy fMb eR tM iEn iTk uP uU kAt iTo iFr JFi iFa iSt iLv iWs wL uS0 uS1 uS2 uS3 uS4 iOm) ++ ((oM cy uU) ++ ((oL cy wL) ++ ((oM cy uP) ++ (oM cy uS0 ++ (oM cy uS1 ++ (oM cy uS2 ++ (oM cy uS3 ++ oM cy uS4))))))))) := ofND hD
  refine lv_pop hx hb dL_law_475 rfl ?_
  refine lv_goto (tgt := 1807) hx hb dL_law_476 (by decide) ?_
  refine W.widen (k := nC + 250) (n := nS + 4440) (by omega) (by omega) ?_
  exact kk _ _ (linv_mk hP hD (hsX) (hsM) (⟨hLR.1, hLR.2⟩)) hS
set_option maxHeartbeats 4000000 in
set_option maxRecDepth 100000 in
theorem law_5 {p : Program} {l : Launch} {e : Env} {s : State} {m : MethodId} {below : List Frame} {meth : Method} {c : Code} {b L : Nat} {xs : Nat → Int32} {A : Nat → Prop} {G : va_G} {cy : Nat → ClassId} {aX aM rR rB rO rK : Nat → Nat} (hx : p.tables.exec = Jvm.exec) (hb : c.code = code) (hr : meth.sig.returnType = ret) (hml : c.maxLocals = 4) (hown : s.vm.findClass RL = some m.cls) (hts : ∀ w ∈ BIG, w.before #[Value.ref b] s = true) (hX : va_X b L xs s s.heap) (hbl : b < s.heap.size) (hlocks : meth.locks = false) (hN : KN G cy s) (hA : ∀ q : Nat, s.heap.size ≤ q → A q) (hAn : ∀ q : Nat, A q → s.heap.size ≤ q) (hbA : ¬ A b) (hSO : SO A s s.heap) {H : Heap} {locs : List Loc} {ls : Array Slot} {kI nC nS : Nat} (hkI : kI + 6 ≤ L) (hL : L ≤ 384) (hnC : nC + 250 ≤ 600000) (hnS : nS + 4440 ≤ 7302250) {iKp : Int32} {iYe : Int32} {iTv : Int32} {fR : Nat → Int32} {tA : TA} {tB : TA} {iL : Int32} {iBs : Int32} {tU : TA} {tV : TA} {fH : Nat → Int32} {fS : Nat → Int32} {fA : Nat → Int32} {gE : Nat → Int64} {kZ : Nat} {iT1 : Int32} {iT2 : Int32} {iT3 : Int32} {iT4 : Int32} {fB : Nat → Int32} {tD : TA} {fMh : Nat → Int32} {fMo : Nat → Int32} {fMz : Nat → Int32} {gMv : Nat → Int64} {fMk : Nat → Int32} {fMa : Nat → Int32} {fMt : Nat → Int32} {kY : Nat} {fMr : Nat → Int32} {fM3 : Nat → Int32} {fMu : Nat → Int32} {fMy : Nat → Int32} {fMb : Nat → Int32} {eR : Nat → Nat → Int64} {tM : TA} {iEn : Int32} {iTk : Int32} {uP : UM} {uU : UM} {kAt : Nat} {iTo : Int32} {iFr : Int32} {JFi : Int64} {iFa : Int32} {iSt : Int32} {iLv : Int32} {iWs : Int32} {wL : UL} {uS0 : UM} {uS1 : UM} {uS2 : UM} {uS3 : UM} {uS4 : UM} {iOm : Int32} (hP : va_P G CL ((XW cy aX iKp iYe iTv fR tA tB iL iBs tU tV fH fS fA gE kZ iT1 iT2 iT3 iT4 fB tD) ++ ((MK cy aM rR rB rO rK fMh fMo fMz gMv fMk fMa fMt kY fMr fM3 fMu fMy fMb eR tM iEn iTk uP uU kAt iTo iFr JFi iFa iSt iLv iWs wL uS0 uS1 uS2 uS3 uS4 iOm) ++ ((oM cy uU) ++ ((oL cy wL) ++ ((oM cy uP) ++ (oM cy uS0 ++ (oM cy uS1 ++ (oM cy uS2 ++ (oM cy uS3 ++ oM cy uS4))))))))) H) (hD : va_D A ((XW cy aX iKp iYe iTv fR tA tB iL iBs tU tV fH fS fA gE kZ iT1 iT2 iT3 iT4 fB tD) ++ ((MK cy aM rR rB rO rK fMh fMo fMz gMv fMk fMa fMt kY fMr fM3 fMu fMy fMb eR tM iEn iTk uP uU kAt iTo iFr JFi iFa iSt iLv iWs wL uS0 uS1 uS2 uS3 uS4 iOm) ++ ((oM cy uU) ++ ((oL cy wL) ++ ((oM cy uP) ++ (oM cy uS0 ++ (oM cy uS1 ++ (oM cy uS2 ++ (oM cy uS3 ++ oM cy uS4)))))))))) (hsX : SX tA tB tD fS kZ) (hsM : SM tM uP fMz fMa kY) (hLR : LR iKp tA tB fH fS fA gE kZ fMh fMo fMz fMk fMa eR kY tM uP fB fMt) (hS : va_S A s.heap H locs) (hl : lv_has ls 4 [(3, .int (nI kI)), (2, .ref (aM 0)), (1, .ref (aX 0)), (0, .ref b)]) (kk : ∀ (H : Heap) (locs : List Loc), LINV G cy A H aX aM rR rB rO rK → va_S A s.heap H locs → W p l e room_1 s m #[Value.ref b] below meth c H locs (nC + 250) (nS + 4440) (lw_Z below #[Value.ref b] s) (F0 m 1807 ls [])) : W p l e room_1 s m #[Value.ref b] below meth c H locs nC nS (lw_Z below #[Value.ref b] s) (F0 m 479 ls []) := by
  refine lv_aload_n hx hb dL_law_479 rfl (lv_at hl 2 rfl) ?_
  refine lv_aload_n hx hb dL_law_480 rfl (lv_at hl 3 rfl) ?_
  refine lv_iload_n hx hb dL_law_481 rfl (lv_at hl 0 rfl) ?_
  refine lv_iconst (v := 1) hx hb dL_law_482 (by decide) ?_
  refine lv_iadd hx hb dL_law_483 ?_
  refine lv_seti (v := nI (kI + 1)) (nI_add _ _) ?_
  refine va_sld hx hb hX hbl hbA hS (vp_in_nI (by omega) (by omega)) dL_law_484 ?_
  refine lv_seti (v := xs (kI + 1)) (congrArg xs (nI_clamp (by omega))) ?_
  refine lv_aload_n hx hb dL_law_485 rfl (lv_at hl 3 rfl) ?_
  refine lv_iload_n hx hb dL_law_486 rfl (lv_at hl 0 rfl) ?_
  refine lv_iconst (v := 2) hx hb dL_law_487 (by decide) ?_
  refine lv_iadd hx hb dL_law_488 ?_
  refine lv_seti (v := nI (kI + 2)) (nI_add _ _) ?_
  refine va_sld hx hb hX hbl hbA hS (vp_in_nI (by omega) (by omega)) dL_law_489 ?_
  refine lv_seti (v := xs (kI + 2)) (congrArg xs (nI_clamp (by omega))) ?_
  refine lv_aload_n hx hb dL_law_490 rfl (lv_at hl 3 rfl) ?_
  refine lv_iload_n hx hb dL_law_491 rfl (lv_at hl 0 rfl) ?_
  refine lv_iconst (v := 3) hx hb dL_law_492 (by decide) ?_
  refine lv_iadd hx hb dL_law_493 ?_
  refine lv_seti (v := nI (kI + 3)) (nI_add _ _) ?_
  refine va_sld hx hb hX hbl hbA hS (vp_in_nI (by omega) (by omega)) dL_law_494 ?_
  refine lv_seti (v := xs (kI + 3)) (congrArg xs (nI_clamp (by omega))) ?_
  have hPD := pd_as (([zzO (aX 0) 4 [.ref (aX 2), .ref (aX 11), .ref (aX 20), .ref (aX 39), .ref (aX 44), .ref (aX 1), .int iKp, .int iYe, .int iTv], zzI cy (aX 1) 5 fR, zzO (aX 2) 3 [.int (nI (T_nb tA)), .int (nI (T_np tA)), .int (wb (T_wh tA)), .int (wb (T_gn tA)), .int (T_sd tA), .ref (aX 3), .ref (aX 4), .ref (aX 5), .ref (aX 6), .ref (aX 7), .ref (aX 8), .ref (aX 9), .ref (aX 10)], zzI cy (aX 3) 8 (T_wo tA), zzI cy (aX 4) 8 (T_ne tA), zzI cy (aX 5) 8 (T_go tA), zzI cy (aX 6) 8 (T_ag tA), zzI cy (aX 7) 8 (T_re tA), zzI cy (aX 8) 8 (T_me tA), zzI cy (aX 9) 8 (T_te tA), zzI cy (aX 10) 64 (shF (T_kn tA)), zzO (aX 11) 3 [.int (nI (T_nb tB)), .int (nI (T_np tB)), .int (wb (T_wh tB)), .int (wb (T_gn tB)), .int (T_sd tB), .ref (aX 12), .ref (aX 13), .ref (aX 14), .ref (aX 15), .ref (aX 16), .ref (aX 17), .ref (aX 18), .ref (aX 19)], zzI cy (aX 12) 8 (T_wo tB), zzI cy (aX 13) 8 (T_ne tB), zzI cy (aX 14) 8 (T_go tB), zzI cy (aX 15) 8 (T_ag tB), zzI cy (aX 16) 8 (T_re tB), zzI cy (aX 17) 8 (T_me tB), zzI cy (aX 18) 8 (T_te tB), zzI cy (aX 19) 64 (shF (T_kn tB)), zzO (aX 20) 0 [.ref (aX 21), .ref (aX 30), .int iL, .int iBs], zzO (aX 21) 3 [.int (nI (T_nb tU)), .int (nI (T_np tU)), .int (wb (T_wh tU)), .int (wb (T_gn tU)), .int (T_sd tU), .ref (aX 22), .ref (aX 23), .ref (aX 24), .ref (aX 25), .ref (aX 26), .ref (aX 27), .ref (aX 28), .ref (aX 29)], zzI cy (aX 22) 8 (T_wo tU), zzI cy (aX 23) 8 (T_ne tU), zzI cy (aX 24) 8 (T_go tU), zzI cy (aX 25) 8 (T_ag tU), zzI cy (aX 26) 8 (T_re tU), zzI cy (aX 27) 8 (T_me tU), zzI cy (aX 28) 8 (T_te tU), zzI cy (aX 29) 64 (shF (T_kn tU)), zzO (aX 30) 3 [.int (nI (T_nb tV)), .int (nI (T_np tV)), .int (wb (T_wh tV)), .int (wb (T_gn tV)), .int (T_sd tV), .ref (aX 31), .ref (aX 32), .ref (aX 33), .ref (aX 34), .ref (aX 35), .ref (aX 36), .ref (aX 37), .ref (aX 38)], zzI cy (aX 31) 8 (T_wo tV), zzI cy (aX 32) 8 (T_ne tV), zzI cy (aX 33) 8 (T_go tV), zzI cy (aX 34) 8 (T_ag tV), zzI cy (aX 35) 8 (T_re tV), zzI cy (aX 36) 8 (T_me tV), zzI cy (aX 37) 8 (T_te tV), zzI cy (aX 38) 64 (shF (T_kn tV)), zzO (aX 39) 1 [.ref (aX 40), .ref (aX 41), .ref (aX 42), .ref (aX 43)], zzI cy (aX 40) 8 fH, zzI cy (aX 41) 8 fS, zzI cy (aX 42) 8 fA, zzJ cy (aX 43) 320 gE, zzO (aX 44) 2 [.ref (aX 45), .int (nI kZ), .int iT1, .int iT2, .int iT3, .int iT4, .ref (aX 46)], zzB cy (aX 45) 250 fB, zzO (aX 46) 3 [.int (nI (T_nb tD)), .int (nI (T_np tD)), .int (wb (T_wh tD)), .int (wb (T_gn tD)), .int (T_sd tD), .ref (aX 47), .ref (aX 48), .ref (aX 49), .ref (aX 50), .ref (aX 51), .ref (aX 52), .ref (aX 53), .ref (aX 54)], zzI cy (aX 47) 8 (T_wo tD), zzI cy (aX 48) 8 (T_ne tD), zzI cy (aX 49) 8 (T_go tD), zzI cy (aX 50) 8 (T_ag tD), zzI cy (aX 51) 8 (T_re tD), zzI cy (aX 52) 8 (T_me tD), zzI cy (aX 53) 8 (T_te tD), zzI cy (aX 54) 64 (shF (T_kn tD))] : va_W) ++ ((MK cy aM rR rB rO rK fMh fMo fMz gMv fMk fMa fMt kY fMr fM3 fMu fMy fMb eR tM iEn iTk uP uU kAt iTo iFr JFi iFa iSt iLv iWs wL uS0 uS1 uS2 uS3 uS4 iOm) ++ ((oM cy uU) ++ ((oL cy wL) ++ ((oM cy uP) ++ (oM cy uS0 ++ (oM cy uS1 ++ (oM cy uS2 ++ (oM cy uS3 ++ oM cy uS4))))))))) hP hD rfl
  clear hP hD
  obtain ⟨hP, hD⟩ := hPD
  refine cViQ (As := [.int (xs (kI + 1)), .int (xs (kI + 2)), .int (xs (kI + 3))]) (rest := []) (b := (aX 0)) (q := (RX5, TX5, 9)) ⟨hx, hb, hml, hown, hts⟩ (p_X5_rule l G cy (H).size (aX 0) (aX 2) (aX 11) (aX 20) (aX 39) (aX 44) (aX 1) iKp iYe iTv fR (aX 40) (aX 41) (aX 42) (aX 43) fH fA (xs (kI + 1)) (xs (kI + 2)) (xs (kI + 3))) L_L_40 hN hP hD hS hA (trueIx 0 [true, true, false, false, false, false, false, false, false, false, false, false, false, false, false, false, false, false, false, false, false, false, false, false, false, false, false, false, false, false, false, false, false, false, false, false, false, false, false, true, true, false, true]) [false, false, true, true, true, true, true, true, true, true, true, true, true, true, true, true, true, true, true, true, true, true, true, true, true, true, true, true, true, true, true, true, true, true, true, true, true, true, true, false, false, true, false, true, true, true, true, true, true, true, true, true, true, true, true] (sel_eq rfl rfl) (by decide +kernel) rfl 0 4 rfl rfl rfl ⟨Nat.le_of_ble_eq_true rfl, Nat.le_of_ble_eq_true rfl⟩ hl.1 (Nat.le_of_ble_eq_true rfl) dL_law_495 ⟨by show nC + 0 ≤ 600000; omega, by show nS + 0 ≤ 7302250; omega⟩ (fun r_1 u_3 H locs h_2 => ?_)
  clear hP hD hS
  intro hP hD hS
  obtain ⟨fX_4, fY_5, fW_6, rfl, h_7, h_2⟩ := h_2
  have hPD := pd_as (([_, _, _, _, _, _, _, _, _, _, _, _, _, _, _, _, _, _, _, _, _, _, _, _, _, _, _, _, _, _, _, _, _, _, _, _, _, _, _, _, _, _, _, _, _, _, _, _, _, _, _, zzI cy (aX 1) 5 fX_4, _, zzI cy (aX 40) 8 fY_5, zzI cy (aX 42) 8 fW_6] : va_W) ++ ((MK cy aM rR rB rO rK fMh fMo fMz gMv fMk fMa fMt kY fMr fM3 fMu fMy fMb eR tM iEn iTk uP uU kAt iTo iFr JFi iFa iSt iLv iWs wL uS0 uS1 uS2 uS3 uS4 iOm) ++ ((oM cy uU) ++ ((oL cy wL) ++ ((oM cy uP) ++ (oM cy uS0 ++ (oM cy uS1 ++ (oM cy uS2 ++ (oM cy uS3 ++ oM cy uS4))))))))) hP hD rfl
  clear hP hD
  obtain ⟨hP, hD⟩ := hPD
  have hPD := pt_as (XW cy aX iKp iYe iTv fX_4 tA tB iL iBs tU tV fY_5 fS fW_6 gE kZ iT1 iT2 iT3 iT4 fB tD) [50, 51, 0, 1, 2, 3, 4, 5, 6, 7, 8, 9, 10, 11, 12, 13, 14, 15, 16, 17, 18, 19, 20, 21, 22, 23, 24, 25, 26, 27, 28, 29, 30, 31, 32, 33, 34, 35, 36, 52, 53, 37, 54, 38, 39, 40, 41, 42, 43, 44, 45, 46, 47, 48, 49] hP hD (by decide +kernel) rfl
  clear hP hD
  obtain ⟨hP, hD⟩ := hPD
  refine lv_pop hx hb dL_law_498 rfl ?_
  refine lv_aload_n hx hb dL_law_499 rfl (lv_at hl 1 rfl) ?_
  refine lv_aload_n hx hb dL_law_500 rfl (lv_at hl 3 rfl) ?_
  refine lv_iload_n hx hb dL_law_501 rfl (lv_at hl 0 rfl) ?_
  refine lv_iconst (v := 1) hx hb dL_law_502 (by decide) ?_
  refine lv_iadd hx hb dL_law_503 ?_
  refine lv_seti (v := nI (kI + 1)) (nI_add _ _) ?_
  refine va_sld hx hb hX hbl hbA hS (vp_in_nI (by omega) (by omega)) dL_law_504 ?_
  refine lv_seti (v := xs (kI + 1)) (congrArg xs (nI_clamp (by omega))) ?_
  refine lv_aload_n hx hb dL_law_505 rfl (lv_at hl 3 rfl) ?_
  refine lv_iload_n hx hb dL_law_506 rfl (lv_at hl 0 rfl) ?_
  refine lv_iconst (v := 2) hx hb dL_law_507 (by decide) ?_
  refine lv_iadd hx hb dL_law_508 ?_
  refine lv_seti (v := nI (kI + 2)) (nI_add _ _) ?_
  refine va_sld hx hb hX hbl hbA hS (vp_in_nI (by omega) (by omega)) dL_law_509 ?_
  refine lv_seti (v := xs (kI + 2)) (congrArg xs (nI_clamp (by omega))) ?_
  refine lv_aload_n hx hb dL_law_510 rfl (lv_at hl 3 rfl) ?_
  refine lv_iload_n hx hb dL_law_511 rfl (lv_at hl 0 rfl) ?_
  refine lv_iconst (v := 3) hx hb dL_law_512 (by decide) ?_
  refine lv_iadd hx hb dL_law_513 ?_
  refine lv_seti (v := nI (kI + 3)) (nI_add _ _) ?_
  refine va_sld hx hb hX hbl hbA hS (vp_in_nI (by omega) (by omega)) dL_law_514 ?_
  refine lv_seti (v := xs (kI + 3)) (congrArg xs (nI_clamp (by omega))) ?_
  replace hP : va_P G CL ((MK cy aM rR rB rO rK fMh fMo fMz gMv fMk fMa fMt kY fMr fM3 fMu fMy fMb eR tM iEn iTk uP uU kAt iTo iFr JFi iFa iSt iLv iWs wL uS0 uS1 uS2 uS3 uS4 iOm) ++ (((oM cy uU) ++ ((oL cy wL) ++ ((oM cy uP) ++ (oM cy uS0 ++ (oM cy uS1 ++ (oM cy uS2 ++ (oM cy uS3 ++ oM cy uS4))))))) ++ (XW cy aX iKp iYe iTv fX_4 tA tB iL iBs tU tV fY_5 fS fW_6 gE kZ iT1 iT2 iT3 iT4 fB tD))) H := toNP hP
  replace hD : va_D A ((MK cy aM rR rB rO rK fMh fMo fMz gMv fMk fMa fMt kY fMr fM3 fMu fMy fMb eR tM iEn iTk uP uU kAt iTo iFr JFi iFa iSt iLv iWs wL uS0 uS1 uS2 uS3 uS4 iOm) ++ (((oM cy uU) ++ ((oL cy wL) ++ ((oM cy uP) ++ (oM cy uS0 ++ (oM cy uS1 ++ (oM cy uS2 ++ (oM cy uS3 ++ oM cy uS4))))))) ++ (XW cy aX iKp iYe iTv fX_4 tA tB iL iBs tU tV fY_5 fS fW_6 gE kZ iT1 iT2 iT3 iT4 fB tD))) := toND hD
  have hPD := pd_as (([zzO (aM 0) 5 [.ref (aM 1), .ref (aM 2), .ref (aM 3), .ref (aM 14), .ref (aM 4), .ref (aM 5), .ref (aM 6), .ref (aM 7), .int (nI kY), .ref (aM 8), .int (nI (T_nb tM)), .ref (aM 15), .int (nI (T_np tM)), .ref (aM 16), .ref (aM 17), .int iEn, .int iTk, .int (T_sd tM), ov uP, ov uU, .int (nI kAt), .int iTo, .int iFr, .long JFi, .int iFa, .ref (aM 9), .int iSt, .int iLv, .int iWs, ovL wL, .ref (aM 10), .ref (aM 11), .ref (aM 12), .ref (aM 13), .int iOm], zzI cy (aM 1) 8 fMh, zzI cy (aM 2) 8 fMo, zzI cy (aM 3) 8 fMz, zzJ cy (aM 4) 40 gMv, zzI cy (aM 5) 8 fMk, zzI cy (aM 6) 8 fMa, zzI cy (aM 7) 250 fMt, zzI cy (aM 8) 8 fMr, zzI cy (aM 9) 3 fM3, zzI cy (aM 10) 8 fMu, zzI cy (aM 11) 5 fMy, zzI cy (aM 12) 5 fMb, zzQ cy 5 (aM 13) 6 (sF (refU uS0) (refU uS1) (refU uS2) (refU uS3) (refU uS4)), zzG cy 4 (aM 14) rR, zzJ cy (rR 0) 40 (eR 0), zzJ cy (rR 1) 40 (eR 1), zzJ cy (rR 2) 40 (eR 2), zzJ cy (rR 3) 40 (eR 3), zzJ cy (rR 4) 40 (eR 4), zzJ cy (rR 5) 40 (eR 5), zzJ cy (rR 6) 40 (eR 6), zzJ cy (rR 7) 40 (eR 7), zzG cy 3 (aM 15) rB, zzI cy (rB 0) 4 (bkR tM 0), zzI cy (rB 1) 4 (bkR tM 1), zzI cy (rB 2) 4 (bkR tM 2), zzI cy (rB 3) 4 (bkR tM 3), zzI cy (rB 4) 4 (bkR tM 4), zzI cy (rB 5) 4 (bkR tM 5), zzI cy (rB 6) 4 (bkR tM 6), zzI cy (rB 7) 4 (bkR tM 7), zzG cy 3 (aM 16) rO, zzI cy (rO 0) 5 (onR tM 0), zzI cy (rO 1) 5 (onR tM 1), zzI cy (rO 2) 5 (onR tM 2), zzI cy (rO 3) 5 (onR tM 3), zzI cy (rO 4) 5 (onR tM 4), zzI cy (rO 5) 5 (onR tM 5), zzI cy (rO 6) 5 (onR tM 6), zzI cy (rO 7) 5 (onR tM 7), zzG cy 3 (aM 17) rK, zzI cy (rK 0) 8 (T_kn tM 0), zzI cy (rK 1) 8 (T_kn tM 1), zzI cy (rK 2) 8 (T_kn tM 2), zzI cy (rK 3) 8 (T_kn tM 3), zzI cy (rK 4) 8 (T_kn tM 4), zzI cy (rK 5) 8 (T_kn tM 5), zzI cy (rK 6) 8 (T_kn tM 6), zzI cy (rK 7) 8 (T_kn tM 7)] : va_W) ++ (((oM cy uU) ++ ((oL cy wL) ++ ((oM cy uP) ++ (oM cy uS0 ++ (oM cy uS1 ++ (oM cy uS2 ++ (oM cy uS3 ++ oM cy uS4))))))) ++ (XW cy aX iKp iYe iTv fX_4 tA tB iL iBs tU tV fY_5 fS fW_6 gE kZ iT1 iT2 iT3 iT4 fB tD))) hP hD rfl
  clear hP hD
  obtain ⟨hP, hD⟩ := hPD
  refine cViQ (As := [.int (xs (kI + 1)), .int (xs (kI + 2)), .int (xs (kI + 3))]) (rest := []) (b := (aM 0)) (q := (RX6, TX6, 35)) ⟨hx, hb, hml, hown, hts⟩ (p_X6_rule l G cy (H).size (aM 0) (aM 1) (aM 2) (aM 3) (aM 14) (aM 4) (aM 5) (aM 6) (aM 7) kY (aM 8) tM (aM 15) (aM 16) (aM 17) iEn iTk uP uU kAt iTo iFr JFi iFa (aM 9) iSt iLv iWs (ovL wL) (aM 10) (aM 11) (aM 12) (aM 13) iOm fMh fMk fMa fMr (xs (kI + 1)) (xs (kI + 2)) (xs (kI + 3))) L_L_43 hN hP hD hS hA (trueIx 0 [true, true, false, false, false, true, true, false, true]) [false, false, true, true, true, false, false, true, false, true, true, true, true, true, true, true, true, true, true, true, true, true, true, true, true, true, true, true, true, true, true, true, true, true, true, true, true, true, true, true, true, true, true, true, true, true, true, true, true, true] (sel_eq rfl rfl) (by decide +kernel) rfl 0 5 rfl rfl rfl ⟨Nat.le_of_ble_eq_true rfl, Nat.le_of_ble_eq_true rfl⟩ hl.1 (Nat.le_of_ble_eq_true rfl) dL_law_515 ⟨by show nC + 0 + 0 ≤ 600000; omega, by show nS + 0 + 0 ≤ 7302250; omega⟩ (fun r_8 u_10 H locs h_9 => ?_)
  clear hP hD hS
  intro hP hD hS
  obtain ⟨fNh_11, fNk_12, fNa_13, fNr_14, rfl, h_15, h_9⟩ := h_9
  have hPD := pd_as (([_, _, _, _, _, _, _, _, _, _, _, _, _, _, _, _, _, _, _, _, _, _, _, _, _, _, _, _, _, _, _, _, _, _, _, _, _, _, _, _, _, _, _, _, _, _, zzI cy (aM 1) 8 fNh_11, zzI cy (aM 5) 8 fNk_12, zzI cy (aM 6) 8 fNa_13, zzI cy (aM 8) 8 fNr_14] : va_W) ++ (((oM cy uU) ++ ((oL cy wL) ++ ((oM cy uP) ++ (oM cy uS0 ++ (oM cy uS1 ++ (oM cy uS2 ++ (oM cy uS3 ++ oM cy uS4))))))) ++ (XW cy aX iKp iYe iTv fX_4 tA tB iL iBs tU tV fY_5 fS fW_6 gE kZ iT1 iT2 iT3 iT4 fB tD))) hP hD rfl
  clear hP hD
  obtain ⟨hP, hD⟩ := hPD
  have hPD := pt_as (MK cy aM rR rB rO rK fNh_11 fMo fMz gMv fNk_12 fNa_13 fMt kY fNr_14 fM3 fMu fMy fMb eR tM iEn iTk uP uU kAt iTo iFr JFi iFa iSt iLv iWs wL uS0 uS1 uS2 uS3 uS4 iOm) [45, 46, 0, 1, 2, 47, 48, 3, 49, 4, 5, 6, 7, 8, 9, 10, 11, 12, 13, 14, 15, 16, 17, 18, 19, 20, 21, 22, 23, 24, 25, 26, 27, 28, 29, 30, 31, 32, 33, 34, 35, 36, 37, 38, 39, 40, 41, 42, 43, 44] hP hD (by decide +kernel) rfl
  clear hP hD
  obtain ⟨hP, hD⟩ := hPD
  replace hP : va_P G CL ((XW cy aX iKp iYe iTv fX_4 tA tB iL iBs tU tV fY_5 fS fW_6 gE kZ iT1 iT2 iT3 iT4 fB tD) ++ ((MK cy aM rR rB rO rK fNh_11 fMo fMz gMv fNk_12 fNa_13 fMt kY fNr_14 fM3 fMu fMy fMb eR tM iEn iTk uP uU kAt iTo iFr JFi iFa iSt iLv iWs wL uS0 uS1 uS2 uS3 uS4 iOm) ++ ((oM cy uU) ++ ((oL cy wL) ++ ((oM cy uP) ++ (oM cy uS0 ++ (oM cy uS1 ++ (oM cy uS2 ++ (oM cy uS3 ++ oM cy uS4))))))))) H := ofNP hP
  replace hD : va_D A ((XW cy aX iKp iYe iTv fX_4 tA tB iL iBs tU tV fY_5 fS fW_6 gE kZ iT1 iT2 iT3 iT4 fB tD) ++ ((MK cy aM rR rB rO rK fNh_11 fMo fMz gMv fNk_12 fNa_13 fMt kY fNr_14 fM3 fMu fMy fMb eR tM iEn iTk uP uU kAt iTo iFr JFi iFa iSt iLv iWs wL uS0 uS1 uS2 uS3 uS4 iOm) ++ ((oM cy uU) ++ ((oL cy wL) ++ ((oM cy uP) ++ (oM cy uS0 ++ (oM cy uS1 ++ (oM cy uS2 ++ (oM cy uS3 ++ oM cy uS4))))))))) := ofND hD
  refine lv_pop hx hb dL_law_518 rfl ?_
  refine lv_goto (tgt := 1807) hx hb dL_law_519 (by decide) ?_
  refine W.widen (k := nC + 250) (n := nS + 4440) (by omega) (by omega) ?_
  exact kk _ _ (linv_mk hP hD (hsX) (sm_rule hsM h_15) (⟨⟨hLR.1.1, hLR.1.2.1, (rule_k hLR.1.2.2 h_7 h_15).2⟩, hLR.2⟩)) hS
set_option maxHeartbeats 4000000 in
set_option maxRecDepth 100000 in
theorem law_6 {p : Program} {l : Launch} {e : Env} {s : State} {m : MethodId} {below : List Frame} {meth : Method} {c : Code} {b L : Nat} {xs : Nat → Int32} {A : Nat → Prop} {G : va_G} {cy : Nat → ClassId} {aX aM rR rB rO rK : Nat → Nat} (hx : p.tables.exec = Jvm.exec) (hb : c.code = code) (hr : meth.sig.returnType = ret) (hml : c.maxLocals = 4) (hown : s.vm.findClass RL = some m.cls) (hts : ∀ w ∈ BIG, w.before #[Value.ref b] s = true) (hX : va_X b L xs s s.heap) (hbl : b < s.heap.size) (hlocks : meth.locks = false) (hN : KN G cy s) (hA : ∀ q : Nat, s.heap.size ≤ q → A q) (hAn : ∀ q : Nat, A q → s.heap.size ≤ q) (hbA : ¬ A b) (hSO : SO A s s.heap) {H : Heap} {locs : List Loc} {ls : Array Slot} {kI nC nS : Nat} (hkI : kI + 6 ≤ L) (hL : L ≤ 384) (hnC : nC + 250 ≤ 600000) (hnS : nS + 4440 ≤ 7302250) {iKp : Int32} {iYe : Int32} {iTv : Int32} {fR : Nat → Int32} {tA : TA} {tB : TA} {iL : Int32} {iBs : Int32} {tU : TA} {tV : TA} {fH : Nat → Int32} {fS : Nat → Int32} {fA : Nat → Int32} {gE : Nat → Int64} {kZ : Nat} {iT1 : Int32} {iT2 : Int32} {iT3 : Int32} {iT4 : Int32} {fB : Nat → Int32} {tD : TA} {fMh : Nat → Int32} {fMo : Nat → Int32} {fMz : Nat → Int32} {gMv : Nat → Int64} {fMk : Nat → Int32} {fMa : Nat → Int32} {fMt : Nat → Int32} {kY : Nat} {fMr : Nat → Int32} {fM3 : Nat → Int32} {fMu : Nat → Int32} {fMy : Nat → Int32} {fMb : Nat → Int32} {eR : Nat → Nat → Int64} {tM : TA} {iEn : Int32} {iTk : Int32} {uP : UM} {uU : UM} {kAt : Nat} {iTo : Int32} {iFr : Int32} {JFi : Int64} {iFa : Int32} {iSt : Int32} {iLv : Int32} {iWs : Int32} {wL : UL} {uS0 : UM} {uS1 : UM} {uS2 : UM} {uS3 : UM} {uS4 : UM} {iOm : Int32} (hP : va_P G CL ((XW cy aX iKp iYe iTv fR tA tB iL iBs tU tV fH fS fA gE kZ iT1 iT2 iT3 iT4 fB tD) ++ ((MK cy aM rR rB rO rK fMh fMo fMz gMv fMk fMa fMt kY fMr fM3 fMu fMy fMb eR tM iEn iTk uP uU kAt iTo iFr JFi iFa iSt iLv iWs wL uS0 uS1 uS2 uS3 uS4 iOm) ++ ((oM cy uU) ++ ((oL cy wL) ++ ((oM cy uP) ++ (oM cy uS0 ++ (oM cy uS1 ++ (oM cy uS2 ++ (oM cy uS3 ++ oM cy uS4))))))))) H) (hD : va_D A ((XW cy aX iKp iYe iTv fR tA tB iL iBs tU tV fH fS fA gE kZ iT1 iT2 iT3 iT4 fB tD) ++ ((MK cy aM rR rB rO rK fMh fMo fMz gMv fMk fMa fMt kY fMr fM3 fMu fMy fMb eR tM iEn iTk uP uU kAt iTo iFr JFi iFa iSt iLv iWs wL uS0 uS1 uS2 uS3 uS4 iOm) ++ ((oM cy uU) ++ ((oL cy wL) ++ ((oM cy uP) ++ (oM cy uS0 ++ (oM cy uS1 ++ (oM cy uS2 ++ (oM cy uS3 ++ oM cy uS4)))))))))) (hsX : SX tA tB tD fS kZ) (hsM : SM tM uP fMz fMa kY) (hLR : LR iKp tA tB fH fS fA gE kZ fMh fMo fMz fMk fMa eR kY tM uP fB fMt) (hS : va_S A s.heap H locs) (hl : lv_has ls 4 [(3, .int (nI kI)), (2, .ref (aM 0)), (1, .ref (aX 0)), (0, .ref b)]) (kk : ∀ (H : Heap) (locs : List Loc), LINV G cy A H aX aM rR rB rO rK → va_S A s.heap H locs → W p l e room_1 s m #[Value.ref b] below meth c H locs (nC + 250) (nS + 4440) (lw_Z below #[Value.ref b] s) (F0 m 1807 ls [])) : W p l e room_1 s m #[Value.ref b] below meth c H locs nC nS (lw_Z below #[Value.ref b] s) (F0 m 522 ls []) := by
  refine lv_aload_n hx hb dL_law_522 rfl (lv_at hl 2 rfl) ?_
  refine lv_aload_n hx hb dL_law_523 rfl (lv_at hl 3 rfl) ?_
  refine lv_iload_n hx hb dL_law_524 rfl (lv_at hl 0 rfl) ?_
  refine lv_iconst (v := 1) hx hb dL_law_525 (by decide) ?_
  refine lv_iadd hx hb dL_law_526 ?_
  refine lv_seti (v := nI (kI + 1)) (nI_add _ _) ?_
  refine va_sld hx hb hX hbl hbA hS (vp_in_nI (by omega) (by omega)) dL_law_527 ?_
  refine lv_seti (v := xs (kI + 1)) (congrArg xs (nI_clamp (by omega))) ?_
  refine lv_aload_n hx hb dL_law_528 rfl (lv_at hl 3 rfl) ?_
  refine lv_iload_n hx hb dL_law_529 rfl (lv_at hl 0 rfl) ?_
  refine lv_iconst (v := 2) hx hb dL_law_530 (by decide) ?_
  refine lv_iadd hx hb dL_law_531 ?_
  refine lv_seti (v := nI (kI + 2)) (nI_add _ _) ?_
  refine va_sld hx hb hX hbl hbA hS (vp_in_nI (by omega) (by omega)) dL_law_532 ?_
  refine lv_seti (v := xs (kI + 2)) (congrArg xs (nI_clamp (by omega))) ?_
  have hPD := pd_as (([zzO (aX 0) 4 [.ref (aX 2), .ref (aX 11), .ref (aX 20), .ref (aX 39), .ref (aX 44), .ref (aX 1), .int iKp, .int iYe, .int iTv], zzI cy (aX 1) 5 fR, zzO (aX 2) 3 [.int (nI (T_nb tA)), .int (nI (T_np tA)), .int (wb (T_wh tA)), .int (wb (T_gn tA)), .int (T_sd tA), .ref (aX 3), .ref (aX 4), .ref (aX 5), .ref (aX 6), .ref (aX 7), .ref (aX 8), .ref (aX 9), .ref (aX 10)], zzI cy (aX 3) 8 (T_wo tA), zzI cy (aX 4) 8 (T_ne tA), zzI cy (aX 5) 8 (T_go tA), zzI cy (aX 6) 8 (T_ag tA), zzI cy (aX 7) 8 (T_re tA), zzI cy (aX 8) 8 (T_me tA), zzI cy (aX 9) 8 (T_te tA), zzI cy (aX 10) 64 (shF (T_kn tA)), zzO (aX 11) 3 [.int (nI (T_nb tB)), .int (nI (T_np tB)), .int (wb (T_wh tB)), .int (wb (T_gn tB)), .int (T_sd tB), .ref (aX 12), .ref (aX 13), .ref (aX 14), .ref (aX 15), .ref (aX 16), .ref (aX 17), .ref (aX 18), .ref (aX 19)], zzI cy (aX 12) 8 (T_wo tB), zzI cy (aX 13) 8 (T_ne tB), zzI cy (aX 14) 8 (T_go tB), zzI cy (aX 15) 8 (T_ag tB), zzI cy (aX 16) 8 (T_re tB), zzI cy (aX 17) 8 (T_me tB), zzI cy (aX 18) 8 (T_te tB), zzI cy (aX 19) 64 (shF (T_kn tB)), zzO (aX 20) 0 [.ref (aX 21), .ref (aX 30), .int iL, .int iBs], zzO (aX 21) 3 [.int (nI (T_nb tU)), .int (nI (T_np tU)), .int (wb (T_wh tU)), .int (wb (T_gn tU)), .int (T_sd tU), .ref (aX 22), .ref (aX 23), .ref (aX 24), .ref (aX 25), .ref (aX 26), .ref (aX 27), .ref (aX 28), .ref (aX 29)], zzI cy (aX 22) 8 (T_wo tU), zzI cy (aX 23) 8 (T_ne tU), zzI cy (aX 24) 8 (T_go tU), zzI cy (aX 25) 8 (T_ag tU), zzI cy (aX 26) 8 (T_re tU), zzI cy (aX 27) 8 (T_me tU), zzI cy (aX 28) 8 (T_te tU), zzI cy (aX 29) 64 (shF (T_kn tU)), zzO (aX 30) 3 [.int (nI (T_nb tV)), .int (nI (T_np tV)), .int (wb (T_wh tV)), .int (wb (T_gn tV)), .int (T_sd tV), .ref (aX 31), .ref (aX 32), .ref (aX 33), .ref (aX 34), .ref (aX 35), .ref (aX 36), .ref (aX 37), .ref (aX 38)], zzI cy (aX 31) 8 (T_wo tV), zzI cy (aX 32) 8 (T_ne tV), zzI cy (aX 33) 8 (T_go tV), zzI cy (aX 34) 8 (T_ag tV), zzI cy (aX 35) 8 (T_re tV), zzI cy (aX 36) 8 (T_me tV), zzI cy (aX 37) 8 (T_te tV), zzI cy (aX 38) 64 (shF (T_kn tV)), zzO (aX 39) 1 [.ref (aX 40), .ref (aX 41), .ref (aX 42), .ref (aX 43)], zzI cy (aX 40) 8 fH, zzI cy (aX 41) 8 fS, zzI cy (aX 42) 8 fA, zzJ cy (aX 43) 320 gE, zzO (aX 44) 2 [.ref (aX 45), .int (nI kZ), .int iT1, .int iT2, .int iT3, .int iT4, .ref (aX 46)], zzB cy (aX 45) 250 fB, zzO (aX 46) 3 [.int (nI (T_nb tD)), .int (nI (T_np tD)), .int (wb (T_wh tD)), .int (wb (T_gn tD)), .int (T_sd tD), .ref (aX 47), .ref (aX 48), .ref (aX 49), .ref (aX 50), .ref (aX 51), .ref (aX 52), .ref (aX 53), .ref (aX 54)], zzI cy (aX 47) 8 (T_wo tD), zzI cy (aX 48) 8 (T_ne tD), zzI cy (aX 49) 8 (T_go tD), zzI cy (aX 50) 8 (T_ag tD), zzI cy (aX 51) 8 (T_re tD), zzI cy (aX 52) 8 (T_me tD), zzI cy (aX 53) 8 (T_te tD), zzI cy (aX 54) 64 (shF (T_kn tD))] : va_W) ++ ((MK cy aM rR rB rO rK fMh fMo fMz gMv fMk fMa fMt kY fMr fM3 fMu fMy fMb eR tM iEn iTk uP uU kAt iTo iFr JFi iFa iSt iLv iWs wL uS0 uS1 uS2 uS3 uS4 iOm) ++ ((oM cy uU) ++ ((oL cy wL) ++ ((oM cy uP) ++ (oM cy uS0 ++ (oM cy uS1 ++ (oM cy uS2 ++ (oM cy uS3 ++ oM cy uS4))))))))) hP hD rfl
  clear hP hD
  obtain ⟨hP, hD⟩ := hPD
  refine cViQ (As := [.int (xs (kI + 1)), .int (xs (kI + 2))]) (rest := []) (b := (aX 0)) (q := (RX5, TX5, 9)) ⟨hx, hb, hml, hown, hts⟩ (p_X5_says l G cy (H).size (aX 0) (aX 2) (aX 11) (aX 20) (aX 39) (aX 44) (aX 1) iKp iYe iTv fR (aX 40) (aX 41) (aX 42) (aX 43) fH fA tA (aX 3) (aX 4) (aX 5) (aX 6) (aX 7) (aX 8) (aX 9) (aX 10) (aX 21) (aX 30) iL iBs tU (aX 22) (aX 23) (aX 24) (aX 25) (aX 26) (aX 27) (aX 28) (aX 29) (xs (kI + 1)) (xs (kI + 2)) hsX.1.1 hsX.1.2) L_L_44 hN hP hD hS hA (trueIxs [[true, true, false, false, false, false, false, false, false, false, false, false, false, false, false, false, false, false, false, false, false, false, false, false, false, false, false, false, false, false, false, false, false, false, false, false, false, false, false, true, true, false, true], [false, false, true, true, true, true, true, true, true, true, true, false, false, false, false, false, false, false, false, false, true, true, true, true, true, true, true, true, true, true]]) [false, false, false, false, false, false, false, false, false, false, false, true, true, true, true, true, true, true, true, true, false, false, false, false, false, false, false, false, false, false, true, true, true, true, true, true, true, true, true, false, false, true, false, true, true, true, true, true, true, true, true, true, true, true, true] (sels_eq rfl rfl) (by decide +kernel) rfl 0 4 rfl rfl rfl ⟨Nat.le_of_ble_eq_true rfl, Nat.le_of_ble_eq_true rfl⟩ hl.1 (Nat.le_of_ble_eq_true rfl) dL_law_533 ⟨by show nC + 0 ≤ 600000; omega, by show nS + 0 ≤ 7302250; omega⟩ (fun r_1 u_3 H locs h_2 => ?_)
  clear hP hD hS
  intro hP hD hS
  obtain ⟨fX_4, iX_5, iY_6, tX_7, rfl, h_2⟩ := h_2
  have hPD := pd_as (([_, _, _, _, _, _, _, _, _, _, _, _, _, _, _, _, _, _, _, _, _, _, _, _, _, _, _, _, _, _, _, _, zzI cy (aX 1) 5 fX_4, _, _, _, _, _, _, _, _, _, _, _, _, zzO (aX 20) 0 [.ref (aX 21), .ref (aX 30), .int iX_5, .int iY_6], zzO (aX 21) 3 [.int (nI (T_nb tX_7)), .int (nI (T_np tX_7)), .int (wb (T_wh tX_7)), .int (wb (T_gn tX_7)), .int (T_sd tX_7), .ref (aX 22), .ref (aX 23), .ref (aX 24), .ref (aX 25), .ref (aX 26), .ref (aX 27), .ref (aX 28), .ref (aX 29)], zzI cy (aX 22) 8 (T_wo tX_7), zzI cy (aX 23) 8 (T_ne tX_7), zzI cy (aX 24) 8 (T_go tX_7), zzI cy (aX 25) 8 (T_ag tX_7), zzI cy (aX 26) 8 (T_re tX_7), zzI cy (aX 27) 8 (T_me tX_7), zzI cy (aX 28) 8 (T_te tX_7), zzI cy (aX 29) 64 (shF (T_kn tX_7))] : va_W) ++ ((MK cy aM rR rB rO rK fMh fMo fMz gMv fMk fMa fMt kY fMr fM3 fMu fMy fMb eR tM iEn iTk uP uU kAt iTo iFr JFi iFa iSt iLv iWs wL uS0 uS1 uS2 uS3 uS4 iOm) ++ ((oM cy uU) ++ ((oL cy wL) ++ ((oM cy uP) ++ (oM cy uS0 ++ (oM cy uS1 ++ (oM cy uS2 ++ (oM cy uS3 ++ oM cy uS4))))))))) hP hD rfl
  clear hP hD
  obtain ⟨hP, hD⟩ := hPD
  have hPD := pt_as (XW cy aX iKp iYe iTv fX_4 tA tB iX_5 iY_6 tX_7 tV fH fS fA gE kZ iT1 iT2 iT3 iT4 fB tD) [31, 32, 36, 37, 38, 39, 40, 41, 42, 43, 44, 0, 1, 2, 3, 4, 5, 6, 7, 8, 45, 46, 47, 48, 49, 50, 51, 52, 53, 54, 9, 10, 11, 12, 13, 14, 15, 16, 17, 33, 34, 18, 35, 19, 20, 21, 22, 23, 24, 25, 26, 27, 28, 29, 30] hP hD (by decide +kernel) rfl
  clear hP hD
  obtain ⟨hP, hD⟩ := hPD
  refine lv_pop hx hb dL_law_536 rfl ?_
  refine lv_aload_n hx hb dL_law_537 rfl (lv_at hl 1 rfl) ?_
  refine lv_aload_n hx hb dL_law_538 rfl (lv_at hl 3 rfl) ?_
  refine lv_iload_n hx hb dL_law_539 rfl (lv_at hl 0 rfl) ?_
  refine lv_iconst (v := 1) hx hb dL_law_540 (by decide) ?_
  refine lv_iadd hx hb dL_law_541 ?_
  refine lv_seti (v := nI (kI + 1)) (nI_add _ _) ?_
  refine va_sld hx hb hX hbl hbA hS (vp_in_nI (by omega) (by omega)) dL_law_542 ?_
  refine lv_seti (v := xs (kI + 1)) (congrArg xs (nI_clamp (by omega))) ?_
  refine lv_aload_n hx hb dL_law_543 rfl (lv_at hl 3 rfl) ?_
  refine lv_iload_n hx hb dL_law_544 rfl (lv_at hl 0 rfl) ?_
  refine lv_iconst (v := 2) hx hb dL_law_545 (by decide) ?_
  refine lv_iadd hx hb dL_law_546 ?_
  refine lv_seti (v := nI (kI + 2)) (nI_add _ _) ?_
  refine va_sld hx hb hX hbl hbA hS (vp_in_nI (by omega) (by omega)) dL_law_547 ?_
  refine lv_seti (v := xs (kI + 2)) (congrArg xs (nI_clamp (by omega))) ?_
  replace hP : va_P G CL (((MK cy aM rR rB rO rK fMh fMo fMz gMv fMk fMa fMt kY fMr fM3 fMu fMy fMb eR tM iEn iTk uP uU kAt iTo iFr JFi iFa iSt iLv iWs wL uS0 uS1 uS2 uS3 uS4 iOm) ++ (oM cy uU)) ++ (((oL cy wL) ++ ((oM cy uP) ++ (oM cy uS0 ++ (oM cy uS1 ++ (oM cy uS2 ++ (oM cy uS3 ++ oM cy uS4)))))) ++ (XW cy aX iKp iYe iTv fX_4 tA tB iX_5 iY_6 tX_7 tV fH fS fA gE kZ iT1 iT2 iT3 iT4 fB tD))) H := toUP hP
  replace hD : va_D A (((MK cy aM rR rB rO rK fMh fMo fMz gMv fMk fMa fMt kY fMr fM3 fMu fMy fMb eR tM iEn iTk uP uU kAt iTo iFr JFi iFa iSt iLv iWs wL uS0 uS1 uS2 uS3 uS4 iOm) ++ (oM cy uU)) ++ (((oL cy wL) ++ ((oM cy uP) ++ (oM cy uS0 ++ (oM cy uS1 ++ (oM cy uS2 ++ (oM cy uS3 ++ oM cy uS4)))))) ++ (XW cy aX iKp iYe iTv fX_4 tA tB iX_5 iY_6 tX_7 tV fH fS fA gE kZ iT1 iT2 iT3 iT4 fB tD))) := toUD hD
  have hPD := pd_as (([zzO (aM 0) 5 [.ref (aM 1), .ref (aM 2), .ref (aM 3), .ref (aM 14), .ref (aM 4), .ref (aM 5), .ref (aM 6), .ref (aM 7), .int (nI kY), .ref (aM 8), .int (nI (T_nb tM)), .ref (aM 15), .int (nI (T_np tM)), .ref (aM 16), .ref (aM 17), .int iEn, .int iTk, .int (T_sd tM), ov uP, ov uU, .int (nI kAt), .int iTo, .int iFr, .long JFi, .int iFa, .ref (aM 9), .int iSt, .int iLv, .int iWs, ovL wL, .ref (aM 10), .ref (aM 11), .ref (aM 12), .ref (aM 13), .int iOm], zzI cy (aM 1) 8 fMh, zzI cy (aM 2) 8 fMo, zzI cy (aM 3) 8 fMz, zzJ cy (aM 4) 40 gMv, zzI cy (aM 5) 8 fMk, zzI cy (aM 6) 8 fMa, zzI cy (aM 7) 250 fMt, zzI cy (aM 8) 8 fMr, zzI cy (aM 9) 3 fM3, zzI cy (aM 10) 8 fMu, zzI cy (aM 11) 5 fMy, zzI cy (aM 12) 5 fMb, zzQ cy 5 (aM 13) 6 (sF (refU uS0) (refU uS1) (refU uS2) (refU uS3) (refU uS4)), zzG cy 4 (aM 14) rR, zzJ cy (rR 0) 40 (eR 0), zzJ cy (rR 1) 40 (eR 1), zzJ cy (rR 2) 40 (eR 2), zzJ cy (rR 3) 40 (eR 3), zzJ cy (rR 4) 40 (eR 4), zzJ cy (rR 5) 40 (eR 5), zzJ cy (rR 6) 40 (eR 6), zzJ cy (rR 7) 40 (eR 7), zzG cy 3 (aM 15) rB, zzI cy (rB 0) 4 (bkR tM 0), zzI cy (rB 1) 4 (bkR tM 1), zzI cy (rB 2) 4 (bkR tM 2), zzI cy (rB 3) 4 (bkR tM 3), zzI cy (rB 4) 4 (bkR tM 4), zzI cy (rB 5) 4 (bkR tM 5), zzI cy (rB 6) 4 (bkR tM 6), zzI cy (rB 7) 4 (bkR tM 7), zzG cy 3 (aM 16) rO, zzI cy (rO 0) 5 (onR tM 0), zzI cy (rO 1) 5 (onR tM 1), zzI cy (rO 2) 5 (onR tM 2), zzI cy (rO 3) 5 (onR tM 3), zzI cy (rO 4) 5 (onR tM 4), zzI cy (rO 5) 5 (onR tM 5), zzI cy (rO 6) 5 (onR tM 6), zzI cy (rO 7) 5 (onR tM 7), zzG cy 3 (aM 17) rK, zzI cy (rK 0) 8 (T_kn tM 0), zzI cy (rK 1) 8 (T_kn tM 1), zzI cy (rK 2) 8 (T_kn tM 2), zzI cy (rK 3) 8 (T_kn tM 3), zzI cy (rK 4) 8 (T_kn tM 4), zzI cy (rK 5) 8 (T_kn tM 5), zzI cy (rK 6) 8 (T_kn tM 6), zzI cy (rK 7) 8 (T_kn tM 7)] ++ (oM cy uU)) ++ (((oL cy wL) ++ ((oM cy uP) ++ (oM cy uS0 ++ (oM cy uS1 ++ (oM cy uS2 ++ (oM cy uS3 ++ oM cy uS4)))))) ++ (XW cy aX iKp iYe iTv fX_4 tA tB iX_5 iY_6 tX_7 tV fH fS fA gE kZ iT1 iT2 iT3 iT4 fB tD))) hP hD rfl
  clear hP hD
  obtain ⟨hP, hD⟩ := hPD
  refine cViPQ (As := [.int (xs (kI + 1)), .int (xs (kI + 2))]) (rest := []) (b := (aM 0)) (q := (RX6, TX6, 35)) ⟨hx, hb, hml, hown, hts⟩ (p_X6_says l G cy (H).size (aM 0) (aM 1) (aM 2) (aM 3) (aM 14) (aM 4) (aM 5) (aM 6) (aM 7) kY (aM 8) tM (aM 15) (aM 16) (aM 17) iEn iTk uP uU kAt iTo iFr JFi iFa (aM 9) iSt iLv iWs (ovL wL) (aM 10) (aM 11) (aM 12) (aM 13) iOm fMh fMk fMa fMr rB rO rK (xs (kI + 1)) (xs (kI + 2)) hsM.1.1.1 hsM.1.1.2 hsM.1 hsM.2.2.2.1) L_L_48 hN hP hD hS hA (trueIx 0 [true, true, false, false, false, true, true, false, true, false, false, false, false, false, false, false, false, false, false, false, false, false, false, true, true, true, true, true, true, true, true, true, true, true, true, true, true, true, true, true, true, true, true, true, true, true, true, true, true, true]) [false, false, true, true, true, false, false, true, false, true, true, true, true, true, true, true, true, true, true, true, true, true, true, false, false, false, false, false, false, false, false, false, false, false, false, false, false, false, false, false, false, false, false, false, false, false, false, false, false, false] (sel_eq rfl rfl) (by decide +kernel) rfl 0 5 rfl rfl rfl ⟨Nat.le_of_ble_eq_true rfl, Nat.le_of_ble_eq_true rfl⟩ hl.1 (Nat.le_of_ble_eq_true rfl) dL_law_548 ⟨by show nC + 0 + 50 ≤ 600000; omega, by show nS + 0 + 888 ≤ 7302250; omega⟩ (fun r_8 u_10 H locs h_9 => ?_)
  clear hP hD hS
  intro hP hD hS
  obtain ⟨fNr_11, uN_12, rfl, h_9⟩ := h_9
  replace hP := as1P hP
  replace hD := as1D hD
  have hPD := pd_as (([zzI cy (aM 2) 8 fMo, zzI cy (aM 3) 8 fMz, zzJ cy (aM 4) 40 gMv, zzI cy (aM 7) 250 fMt, zzI cy (aM 9) 3 fM3, zzI cy (aM 10) 8 fMu, zzI cy (aM 11) 5 fMy, zzI cy (aM 12) 5 fMb, zzQ cy 5 (aM 13) 6 (sF (refU uS0) (refU uS1) (refU uS2) (refU uS3) (refU uS4)), zzG cy 4 (aM 14) rR, zzJ cy (rR 0) 40 (eR 0), zzJ cy (rR 1) 40 (eR 1), zzJ cy (rR 2) 40 (eR 2), zzJ cy (rR 3) 40 (eR 3), zzJ cy (rR 4) 40 (eR 4), zzJ cy (rR 5) 40 (eR 5), zzJ cy (rR 6) 40 (eR 6), zzJ cy (rR 7) 40 (eR 7), zzO (aM 0) 5 [.ref (aM 1), .ref (aM 2), .ref (aM 3), .ref (aM 14), .ref (aM 4), .ref (aM 5), .ref (aM 6), .ref (aM 7), .int (nI kY), .ref (aM 8), .int (nI (T_nb tM)), .ref (aM 15), .int (nI (T_np tM)), .ref (aM 16), .ref (aM 17), .int iEn, .int iTk, .int (T_sd tM), ov uP, ov uN_12, .int (nI kAt), .int iTo, .int iFr, .long JFi, .int iFa, .ref (aM 9), .int iSt, .int iLv, .int iWs, ovL wL, .ref (aM 10), .ref (aM 11), .ref (aM 12), .ref (aM 13), .int iOm], zzI cy (aM 1) 8 fMh, zzI cy (aM 5) 8 fMk, zzI cy (aM 6) 8 fMa, zzI cy (aM 8) 8 fNr_11, zzG cy 3 (aM 15) rB, zzI cy (rB 0) 4 (bkR tM 0), zzI cy (rB 1) 4 (bkR tM 1), zzI cy (rB 2) 4 (bkR tM 2), zzI cy (rB 3) 4 (bkR tM 3), zzI cy (rB 4) 4 (bkR tM 4), zzI cy (rB 5) 4 (bkR tM 5), zzI cy (rB 6) 4 (bkR tM 6), zzI cy (rB 7) 4 (bkR tM 7), zzG cy 3 (aM 16) rO, zzI cy (rO 0) 5 (onR tM 0), zzI cy (rO 1) 5 (onR tM 1), zzI cy (rO 2) 5 (onR tM 2), zzI cy (rO 3) 5 (onR tM 3), zzI cy (rO 4) 5 (onR tM 4), zzI cy (rO 5) 5 (onR tM 5), zzI cy (rO 6) 5 (onR tM 6), zzI cy (rO 7) 5 (onR tM 7), zzG cy 3 (aM 17) rK, zzI cy (rK 0) 8 (T_kn tM 0), zzI cy (rK 1) 8 (T_kn tM 1), zzI cy (rK 2) 8 (T_kn tM 2), zzI cy (rK 3) 8 (T_kn tM 3), zzI cy (rK 4) 8 (T_kn tM 4), zzI cy (rK 5) 8 (T_kn tM 5), zzI cy (rK 6) 8 (T_kn tM 6), zzI cy (rK 7) 8 (T_kn tM 7)] : va_W) ++ ((oM cy uN_12) ++ (((oL cy wL) ++ ((oM cy uP) ++ (oM cy uS0 ++ (oM cy uS1 ++ (oM cy uS2 ++ (oM cy uS3 ++ oM cy uS4)))))) ++ (XW cy aX iKp iYe iTv fX_4 tA tB iX_5 iY_6 tX_7 tV fH fS fA gE kZ iT1 iT2 iT3 iT4 fB tD)))) hP hD rfl
  clear hP hD
  obtain ⟨hP, hD⟩ := hPD
  have hPD := pt_as (MK cy aM rR rB rO rK fMh fMo fMz gMv fMk fMa fMt kY fNr_11 fM3 fMu fMy fMb eR tM iEn iTk uP uN_12 kAt iTo iFr JFi iFa iSt iLv iWs wL uS0 uS1 uS2 uS3 uS4 iOm) [18, 19, 0, 1, 2, 20, 21, 3, 22, 4, 5, 6, 7, 8, 9, 10, 11, 12, 13, 14, 15, 16, 17, 23, 24, 25, 26, 27, 28, 29, 30, 31, 32, 33, 34, 35, 36, 37, 38, 39, 40, 41, 42, 43, 44, 45, 46, 47, 48, 49] hP hD (by decide +kernel) rfl
  clear hP hD
  obtain ⟨hP, hD⟩ := hPD
  replace hP : va_P G CL ((XW cy aX iKp iYe iTv fX_4 tA tB iX_5 iY_6 tX_7 tV fH fS fA gE kZ iT1 iT2 iT3 iT4 fB tD) ++ ((MK cy aM rR rB rO rK fMh fMo fMz gMv fMk fMa fMt kY fNr_11 fM3 fMu fMy fMb eR tM iEn iTk uP uN_12 kAt iTo iFr JFi iFa iSt iLv iWs wL uS0 uS1 uS2 uS3 uS4 iOm) ++ ((oM cy uN_12) ++ ((oL cy wL) ++ ((oM cy uP) ++ (oM cy uS0 ++ (oM cy uS1 ++ (oM cy uS2 ++ (oM cy uS3 ++ oM cy uS4))))))))) H := ofUP hP
  replace hD : va_D A ((XW cy aX iKp iYe iTv fX_4 tA tB iX_5 iY_6 tX_7 tV fH fS fA gE kZ iT1 iT2 iT3 iT4 fB tD) ++ ((MK cy aM rR rB rO rK fMh fMo fMz gMv fMk fMa fMt kY fNr_11 fM3 fMu fMy fMb eR tM iEn iTk uP uN_12 kAt iTo iFr JFi iFa iSt iLv iWs wL uS0 uS1 uS2 uS3 uS4 iOm) ++ ((oM cy uN_12) ++ ((oL cy wL) ++ ((oM cy uP) ++ (oM cy uS0 ++ (oM cy uS1 ++ (oM cy uS2 ++ (oM cy uS3 ++ oM cy uS4))))))))) := ofUD hD
  refine lv_pop hx hb dL_law_551 rfl ?_
  refine lv_goto (tgt := 1807) hx hb dL_law_552 (by decide) ?_
  refine W.widen (k := nC + 250) (n := nS + 4440) (by omega) (by omega) ?_
  exact kk _ _ (linv_mk hP hD (hsX) (hsM) (⟨hLR.1, hLR.2⟩)) hS
set_option maxHeartbeats 4000000 in
set_option maxRecDepth 100000 in
theorem law_7 {p : Program} {l : Launch} {e : Env} {s : State} {m : MethodId} {below : List Frame} {meth : Method} {c : Code} {b L : Nat} {xs : Nat → Int32} {A : Nat → Prop} {G : va_G} {cy : Nat → ClassId} {aX aM rR rB rO rK : Nat → Nat} (hx : p.tables.exec = Jvm.exec) (hb : c.code = code) (hr : meth.sig.returnType = ret) (hml : c.maxLocals = 4) (hown : s.vm.findClass RL = some m.cls) (hts : ∀ w ∈ BIG, w.before #[Value.ref b] s = true) (hX : va_X b L xs s s.heap) (hbl : b < s.heap.size) (hlocks : meth.locks = false) (hN : KN G cy s) (hA : ∀ q : Nat, s.heap.size ≤ q → A q) (hAn : ∀ q : Nat, A q → s.heap.size ≤ q) (hbA : ¬ A b) (hSO : SO A s s.heap) {H : Heap} {locs : List Loc} {ls : Array Slot} {kI nC nS : Nat} (hkI : kI + 6 ≤ L) (hL : L ≤ 384) (hnC : nC + 250 ≤ 600000) (hnS : nS + 4440 ≤ 7302250) {iKp : Int32} {iYe : Int32} {iTv : Int32} {fR : Nat → Int32} {tA : TA} {tB : TA} {iL : Int32} {iBs : Int32} {tU : TA} {tV : TA} {fH : Nat → Int32} {fS : Nat → Int32} {fA : Nat → Int32} {gE : Nat → Int64} {kZ : Nat} {iT1 : Int32} {iT2 : Int32} {iT3 : Int32} {iT4 : Int32} {fB : Nat → Int32} {tD : TA} {fMh : Nat → Int32} {fMo : Nat → Int32} {fMz : Nat → Int32} {gMv : Nat → Int64} {fMk : Nat → Int32} {fMa : Nat → Int32} {fMt : Nat → Int32} {kY : Nat} {fMr : Nat → Int32} {fM3 : Nat → Int32} {fMu : Nat → Int32} {fMy : Nat → Int32} {fMb : Nat → Int32} {eR : Nat → Nat → Int64} {tM : TA} {iEn : Int32} {iTk : Int32} {uP : UM} {uU : UM} {kAt : Nat} {iTo : Int32} {iFr : Int32} {JFi : Int64} {iFa : Int32} {iSt : Int32} {iLv : Int32} {iWs : Int32} {wL : UL} {uS0 : UM} {uS1 : UM} {uS2 : UM} {uS3 : UM} {uS4 : UM} {iOm : Int32} (hP : va_P G CL ((XW cy aX iKp iYe iTv fR tA tB iL iBs tU tV fH fS fA gE kZ iT1 iT2 iT3 iT4 fB tD) ++ ((MK cy aM rR rB rO rK fMh fMo fMz gMv fMk fMa fMt kY fMr fM3 fMu fMy fMb eR tM iEn iTk uP uU kAt iTo iFr JFi iFa iSt iLv iWs wL uS0 uS1 uS2 uS3 uS4 iOm) ++ ((oM cy uU) ++ ((oL cy wL) ++ ((oM cy uP) ++ (oM cy uS0 ++ (oM cy uS1 ++ (oM cy uS2 ++ (oM cy uS3 ++ oM cy uS4))))))))) H) (hD : va_D A ((XW cy aX iKp iYe iTv fR tA tB iL iBs tU tV fH fS fA gE kZ iT1 iT2 iT3 iT4 fB tD) ++ ((MK cy aM rR rB rO rK fMh fMo fMz gMv fMk fMa fMt kY fMr fM3 fMu fMy fMb eR tM iEn iTk uP uU kAt iTo iFr JFi iFa iSt iLv iWs wL uS0 uS1 uS2 uS3 uS4 iOm) ++ ((oM cy uU) ++ ((oL cy wL) ++ ((oM cy uP) ++ (oM cy uS0 ++ (oM cy uS1 ++ (oM cy uS2 ++ (oM cy uS3 ++ oM cy uS4)))))))))) (hsX : SX tA tB tD fS kZ) (hsM : SM tM uP fMz fMa kY) (hLR : LR iKp tA tB fH fS fA gE kZ fMh fMo fMz fMk fMa eR kY tM uP fB fMt) (hS : va_S A s.heap H locs) (hl : lv_has ls 4 [(3, .int (nI kI)), (2, .ref (aM 0)), (1, .ref (aX 0)), (0, .ref b)]) (kk : ∀ (H : Heap) (locs : List Loc), LINV G cy A H aX aM rR rB rO rK → va_S A s.heap H locs → W p l e room_1 s m #[Value.ref b] below meth c H locs (nC + 250) (nS + 4440) (lw_Z below #[Value.ref b] s) (F0 m 1807 ls [])) : W p l e room_1 s m #[Value.ref b] below meth c H locs nC nS (lw_Z below #[Value.ref b] s) (F0 m 555 ls []) := by
  refine lv_aload_n hx hb dL_law_555 rfl (lv_at hl 2 rfl) ?_
  refine lv_aload_n hx hb dL_law_556 rfl (lv_at hl 3 rfl) ?_
  refine lv_iload_n hx hb dL_law_557 rfl (lv_at hl 0 rfl) ?_
  refine lv_iconst (v := 1) hx hb dL_law_558 (by decide) ?_
  refine lv_iadd hx hb dL_law_559 ?_
  refine lv_seti (v := nI (kI + 1)) (nI_add _ _) ?_
  refine va_sld hx hb hX hbl hbA hS (vp_in_nI (by omega) (by omega)) dL_law_560 ?_
  refine lv_seti (v := xs (kI + 1)) (congrArg xs (nI_clamp (by omega))) ?_
  refine lv_aload_n hx hb dL_law_561 rfl (lv_at hl 3 rfl) ?_
  refine lv_iload_n hx hb dL_law_562 rfl (lv_at hl 0 rfl) ?_
  refine lv_iconst (v := 2) hx hb dL_law_563 (by decide) ?_
  refine lv_iadd hx hb dL_law_564 ?_
  refine lv_seti (v := nI (kI + 2)) (nI_add _ _) ?_
  refine va_sld hx hb hX hbl hbA hS (vp_in_nI (by omega) (by omega)) dL_law_565 ?_
  refine lv_seti (v := xs (kI + 2)) (congrArg xs (nI_clamp (by omega))) ?_
  have hPD := pd_as (([zzO (aX 0) 4 [.ref (aX 2), .ref (aX 11), .ref (aX 20), .ref (aX 39), .ref (aX 44), .ref (aX 1), .int iKp, .int iYe, .int iTv], zzI cy (aX 1) 5 fR, zzO (aX 2) 3 [.int (nI (T_nb tA)), .int (nI (T_np tA)), .int (wb (T_wh tA)), .int (wb (T_gn tA)), .int (T_sd tA), .ref (aX 3), .ref (aX 4), .ref (aX 5), .ref (aX 6), .ref (aX 7), .ref (aX 8), .ref (aX 9), .ref (aX 10)], zzI cy (aX 3) 8 (T_wo tA), zzI cy (aX 4) 8 (T_ne tA), zzI cy (aX 5) 8 (T_go tA), zzI cy (aX 6) 8 (T_ag tA), zzI cy (aX 7) 8 (T_re tA), zzI cy (aX 8) 8 (T_me tA), zzI cy (aX 9) 8 (T_te tA), zzI cy (aX 10) 64 (shF (T_kn tA)), zzO (aX 11) 3 [.int (nI (T_nb tB)), .int (nI (T_np tB)), .int (wb (T_wh tB)), .int (wb (T_gn tB)), .int (T_sd tB), .ref (aX 12), .ref (aX 13), .ref (aX 14), .ref (aX 15), .ref (aX 16), .ref (aX 17), .ref (aX 18), .ref (aX 19)], zzI cy (aX 12) 8 (T_wo tB), zzI cy (aX 13) 8 (T_ne tB), zzI cy (aX 14) 8 (T_go tB), zzI cy (aX 15) 8 (T_ag tB), zzI cy (aX 16) 8 (T_re tB), zzI cy (aX 17) 8 (T_me tB), zzI cy (aX 18) 8 (T_te tB), zzI cy (aX 19) 64 (shF (T_kn tB)), zzO (aX 20) 0 [.ref (aX 21), .ref (aX 30), .int iL, .int iBs], zzO (aX 21) 3 [.int (nI (T_nb tU)), .int (nI (T_np tU)), .int (wb (T_wh tU)), .int (wb (T_gn tU)), .int (T_sd tU), .ref (aX 22), .ref (aX 23), .ref (aX 24), .ref (aX 25), .ref (aX 26), .ref (aX 27), .ref (aX 28), .ref (aX 29)], zzI cy (aX 22) 8 (T_wo tU), zzI cy (aX 23) 8 (T_ne tU), zzI cy (aX 24) 8 (T_go tU), zzI cy (aX 25) 8 (T_ag tU), zzI cy (aX 26) 8 (T_re tU), zzI cy (aX 27) 8 (T_me tU), zzI cy (aX 28) 8 (T_te tU), zzI cy (aX 29) 64 (shF (T_kn tU)), zzO (aX 30) 3 [.int (nI (T_nb tV)), .int (nI (T_np tV)), .int (wb (T_wh tV)), .int (wb (T_gn tV)), .int (T_sd tV), .ref (aX 31), .ref (aX 32), .ref (aX 33), .ref (aX 34), .ref (aX 35), .ref (aX 36), .ref (aX 37), .ref (aX 38)], zzI cy (aX 31) 8 (T_wo tV), zzI cy (aX 32) 8 (T_ne tV), zzI cy (aX 33) 8 (T_go tV), zzI cy (aX 34) 8 (T_ag tV), zzI cy (aX 35) 8 (T_re tV), zzI cy (aX 36) 8 (T_me tV), zzI cy (aX 37) 8 (T_te tV), zzI cy (aX 38) 64 (shF (T_kn tV)), zzO (aX 39) 1 [.ref (aX 40), .ref (aX 41), .ref (aX 42), .ref (aX 43)], zzI cy (aX 40) 8 fH, zzI cy (aX 41) 8 fS, zzI cy (aX 42) 8 fA, zzJ cy (aX 43) 320 gE, zzO (aX 44) 2 [.ref (aX 45), .int (nI kZ), .int iT1, .int iT2, .int iT3, .int iT4, .ref (aX 46)], zzB cy (aX 45) 250 fB, zzO (aX 46) 3 [.int (nI (T_nb tD)), .int (nI (T_np tD)), .int (wb (T_wh tD)), .int (wb (T_gn tD)), .int (T_sd tD), .ref (aX 47), .ref (aX 48), .ref (aX 49), .ref (aX 50), .ref (aX 51), .ref (aX 52), .ref (aX 53), .ref (aX 54)], zzI cy (aX 47) 8 (T_wo tD), zzI cy (aX 48) 8 (T_ne tD), zzI cy (aX 49) 8 (T_go tD), zzI cy (aX 50) 8 (T_ag tD), zzI cy (aX 51) 8 (T_re tD), zzI cy (aX 52) 8 (T_me tD), zzI cy (aX 53) 8 (T_te tD), zzI cy (aX 54) 64 (shF (T_kn tD))] : va_W) ++ ((MK cy aM rR rB rO rK fMh fMo fMz gMv fMk fMa fMt kY fMr fM3 fMu fMy fMb eR tM iEn iTk uP uU kAt iTo iFr JFi iFa iSt iLv iWs wL uS0 uS1 uS2 uS3 uS4 iOm) ++ ((oM cy uU) ++ ((oL cy wL) ++ ((oM cy uP) ++ (oM cy uS0 ++ (oM cy uS1 ++ (oM cy uS2 ++ (oM cy uS3 ++ oM cy uS4))))))))) hP hD rfl
  clear hP hD
  obtain ⟨hP, hD⟩ := hPD
  refine cViQ (As := [.int (xs (kI + 1)), .int (xs (kI + 2))]) (rest := []) (b := (aX 0)) (q := (RX5, TX5, 9)) ⟨hx, hb, hml, hown, hts⟩ (p_X5_book l G cy (H).size (aX 0) (aX 2) (aX 11) (aX 20) (aX 39) (aX 44) (aX 1) iKp iYe iTv fR tA (aX 3) (aX 4) (aX 5) (aX 6) (aX 7) (aX 8) (aX 9) (aX 10) (xs (kI + 1)) (xs (kI + 2)) hsX.1.1 hsX.1.2) L_L_49 hN hP hD hS hA (trueIx 0 [true, true, true, true, true, true, true, true, true, true, true]) [false, false, false, false, false, false, false, false, false, false, false, true, true, true, true, true, true, true, true, true, true, true, true, true, true, true, true, true, true, true, true, true, true, true, true, true, true, true, true, true, true, true, true, true, true, true, true, true, true, true, true, true, true, true, true] (sel_eq rfl rfl) (by decide +kernel) rfl 0 4 rfl rfl rfl ⟨Nat.le_of_ble_eq_true rfl, Nat.le_of_ble_eq_true rfl⟩ hl.1 (Nat.le_of_ble_eq_true rfl) dL_law_566 ⟨by show nC + 0 ≤ 600000; omega, by show nS + 0 ≤ 7302250; omega⟩ (fun r_1 u_3 H locs h_2 => ?_)
  clear hP hD hS
  intro hP hD hS
  obtain ⟨fX_4, tN_5, rfl, h_6, h_2⟩ := h_2
  have hPD := pd_as (([_, _, _, _, _, _, _, _, _, _, _, _, _, _, _, _, _, _, _, _, _, _, _, _, _, _, _, _, _, _, _, _, _, _, _, _, _, _, _, _, _, _, _, _, _, zzI cy (aX 1) 5 fX_4, zzO (aX 2) 3 [.int (nI (T_nb tN_5)), .int (nI (T_np tN_5)), .int (wb (T_wh tN_5)), .int (wb (T_gn tN_5)), .int (T_sd tN_5), .ref (aX 3), .ref (aX 4), .ref (aX 5), .ref (aX 6), .ref (aX 7), .ref (aX 8), .ref (aX 9), .ref (aX 10)], zzI cy (aX 3) 8 (T_wo tN_5), zzI cy (aX 4) 8 (T_ne tN_5), zzI cy (aX 5) 8 (T_go tN_5), zzI cy (aX 6) 8 (T_ag tN_5), zzI cy (aX 7) 8 (T_re tN_5), zzI cy (aX 8) 8 (T_me tN_5), zzI cy (aX 9) 8 (T_te tN_5), zzI cy (aX 10) 64 (shF (T_kn tN_5))] : va_W) ++ ((MK cy aM rR rB rO rK fMh fMo fMz gMv fMk fMa fMt kY fMr fM3 fMu fMy fMb eR tM iEn iTk uP uU kAt iTo iFr JFi iFa iSt iLv iWs wL uS0 uS1 uS2 uS3 uS4 iOm) ++ ((oM cy uU) ++ ((oL cy wL) ++ ((oM cy uP) ++ (oM cy uS0 ++ (oM cy uS1 ++ (oM cy uS2 ++ (oM cy uS3 ++ oM cy uS4))))))))) hP hD rfl
  clear hP hD
  obtain ⟨hP, hD⟩ := hPD
  have hPD := pt_as (XW cy aX iKp iYe iTv fX_4 tN_5 tB iL iBs tU tV fH fS fA gE kZ iT1 iT2 iT3 iT4 fB tD) [44, 45, 46, 47, 48, 49, 50, 51, 52, 53, 54, 0, 1, 2, 3, 4, 5, 6, 7, 8, 9, 10, 11, 12, 13, 14, 15, 16, 17, 18, 19, 20, 21, 22, 23, 24, 25, 26, 27, 28, 29, 30, 31, 32, 33, 34, 35, 36, 37, 38, 39, 40, 41, 42, 43] hP hD (by decide +kernel) rfl
  clear hP hD
  obtain ⟨hP, hD⟩ := hPD
  refine lv_pop hx hb dL_law_569 rfl ?_
  refine lv_aload_n hx hb dL_law_570 rfl (lv_at hl 1 rfl) ?_
  refine lv_aload_n hx hb dL_law_571 rfl (lv_at hl 3 rfl) ?_
  refine lv_iload_n hx hb dL_law_572 rfl (lv_at hl 0 rfl) ?_
  refine lv_iconst (v := 1) hx hb dL_law_573 (by decide) ?_
  refine lv_iadd hx hb dL_law_574 ?_
  refine lv_seti (v := nI (kI + 1)) (nI_add _ _) ?_
  refine va_sld hx hb hX hbl hbA hS (vp_in_nI (by omega) (by omega)) dL_law_575 ?_
  refine lv_seti (v := xs (kI + 1)) (congrArg xs (nI_clamp (by omega))) ?_
  refine lv_aload_n hx hb dL_law_576 rfl (lv_at hl 3 rfl) ?_
  refine lv_iload_n hx hb dL_law_577 rfl (lv_at hl 0 rfl) ?_
  refine lv_iconst (v := 2) hx hb dL_law_578 (by decide) ?_
  refine lv_iadd hx hb dL_law_579 ?_
  refine lv_seti (v := nI (kI + 2)) (nI_add _ _) ?_
  refine va_sld hx hb hX hbl hbA hS (vp_in_nI (by omega) (by omega)) dL_law_580 ?_
  refine lv_seti (v := xs (kI + 2)) (congrArg xs (nI_clamp (by omega))) ?_
  replace hP : va_P G CL ((MK cy aM rR rB rO rK fMh fMo fMz gMv fMk fMa fMt kY fMr fM3 fMu fMy fMb eR tM iEn iTk uP uU kAt iTo iFr JFi iFa iSt iLv iWs wL uS0 uS1 uS2 uS3 uS4 iOm) ++ (((oM cy uU) ++ ((oL cy wL) ++ ((oM cy uP) ++ (oM cy uS0 ++ (oM cy uS1 ++ (oM cy uS2 ++ (oM cy uS3 ++ oM cy uS4))))))) ++ (XW cy aX iKp iYe iTv fX_4 tN_5 tB iL iBs tU tV fH fS fA gE kZ iT1 iT2 iT3 iT4 fB tD))) H := toNP hP
  replace hD : va_D A ((MK cy aM rR rB rO rK fMh fMo fMz gMv fMk fMa fMt kY fMr fM3 fMu fMy fMb eR tM iEn iTk uP uU kAt iTo iFr JFi iFa iSt iLv iWs wL uS0 uS1 uS2 uS3 uS4 iOm) ++ (((oM cy uU) ++ ((oL cy wL) ++ ((oM cy uP) ++ (oM cy uS0 ++ (oM cy uS1 ++ (oM cy uS2 ++ (oM cy uS3 ++ oM cy uS4))))))) ++ (XW cy aX iKp iYe iTv fX_4 tN_5 tB iL iBs tU tV fH fS fA gE kZ iT1 iT2 iT3 iT4 fB tD))) := toND hD
  have hPD := pd_as (([zzO (aM 0) 5 [.ref (aM 1), .ref (aM 2), .ref (aM 3), .ref (aM 14), .ref (aM 4), .ref (aM 5), .ref (aM 6), .ref (aM 7), .int (nI kY), .ref (aM 8), .int (nI (T_nb tM)), .ref (aM 15), .int (nI (T_np tM)), .ref (aM 16), .ref (aM 17), .int iEn, .int iTk, .int (T_sd tM), ov uP, ov uU, .int (nI kAt), .int iTo, .int iFr, .long JFi, .int iFa, .ref (aM 9), .int iSt, .int iLv, .int iWs, ovL wL, .ref (aM 10), .ref (aM 11), .ref (aM 12), .ref (aM 13), .int iOm], zzI cy (aM 1) 8 fMh, zzI cy (aM 2) 8 fMo, zzI cy (aM 3) 8 fMz, zzJ cy (aM 4) 40 gMv, zzI cy (aM 5) 8 fMk, zzI cy (aM 6) 8 fMa, zzI cy (aM 7) 250 fMt, zzI cy (aM 8) 8 fMr, zzI cy (aM 9) 3 fM3, zzI cy (aM 10) 8 fMu, zzI cy (aM 11) 5 fMy, zzI cy (aM 12) 5 fMb, zzQ cy 5 (aM 13) 6 (sF (refU uS0) (refU uS1) (refU uS2) (refU uS3) (refU uS4)), zzG cy 4 (aM 14) rR, zzJ cy (rR 0) 40 (eR 0), zzJ cy (rR 1) 40 (eR 1), zzJ cy (rR 2) 40 (eR 2), zzJ cy (rR 3) 40 (eR 3), zzJ cy (rR 4) 40 (eR 4), zzJ cy (rR 5) 40 (eR 5), zzJ cy (rR 6) 40 (eR 6), zzJ cy (rR 7) 40 (eR 7), zzG cy 3 (aM 15) rB, zzI cy (rB 0) 4 (bkR tM 0), zzI cy (rB 1) 4 (bkR tM 1), zzI cy (rB 2) 4 (bkR tM 2), zzI cy (rB 3) 4 (bkR tM 3), zzI cy (rB 4) 4 (bkR tM 4), zzI cy (rB 5) 4 (bkR tM 5), zzI cy (rB 6) 4 (bkR tM 6), zzI cy (rB 7) 4 (bkR tM 7), zzG cy 3 (aM 16) rO, zzI cy (rO 0) 5 (onR tM 0), zzI cy (rO 1) 5 (onR tM 1), zzI cy (rO 2) 5 (onR tM 2), zzI cy (rO 3) 5 (onR tM 3), zzI cy (rO 4) 5 (onR tM 4), zzI cy (rO 5) 5 (onR tM 5), zzI cy (rO 6) 5 (onR tM 6), zzI cy (rO 7) 5 (onR tM 7), zzG cy 3 (aM 17) rK, zzI cy (rK 0) 8 (T_kn tM 0), zzI cy (rK 1) 8 (T_kn tM 1), zzI cy (rK 2) 8 (T_kn tM 2), zzI cy (rK 3) 8 (T_kn tM 3), zzI cy (rK 4) 8 (T_kn tM 4), zzI cy (rK 5) 8 (T_kn tM 5), zzI cy (rK 6) 8 (T_kn tM 6), zzI cy (rK 7) 8 (T_kn tM 7)] : va_W) ++ (((oM cy uU) ++ ((oL cy wL) ++ ((oM cy uP) ++ (oM cy uS0 ++ (oM cy uS1 ++ (oM cy uS2 ++ (oM cy uS3 ++ oM cy uS4))))))) ++ (XW cy aX iKp iYe iTv fX_4 tN_5 tB iL iBs tU tV fH fS fA gE kZ iT1 iT2 iT3 iT4 fB tD))) hP hD rfl
  clear hP hD
  obtain ⟨hP, hD⟩ := hPD
  refine cViQ (As := [.int (xs (kI + 1)), .int (xs (kI + 2))]) (rest := []) (b := (aM 0)) (q := (RX6, TX6, 35)) ⟨hx, hb, hml, hown, hts⟩ (x_X6_book l G cy (H).size (aM 0) (aM 1) (aM 2) (aM 3) (aM 14) (aM 4) (aM 5) (aM 6) (aM 7) kY (aM 8) tM (aM 15) (aM 16) (aM 17) iEn iTk uP uU kAt iTo iFr JFi iFa (aM 9) iSt iLv iWs (ovL wL) (aM 10) (aM 11) (aM 12) (aM 13) iOm rB rO rK fMr (xs (kI + 1)) (xs (kI + 2)) hsM.1.1.1 hsM.1.1.2 hsM.1 hLR.2.2.1) L_L_52 hN hP hD hS hA (trueIxs [[true, false, false, false, false, false, false, false, false, false, false, false, false, false, false, false, false, false, false, false, false, false, false, true, true, true, true, true, true, true, true, true, true, true, true, true, true, true, true, true, true, true, true, true, true, true, true, true, true, true], [false, false, false, false, false, false, false, false, true]]) [false, true, true, true, true, true, true, true, false, true, true, true, true, true, true, true, true, true, true, true, true, true, true, false, false, false, false, false, false, false, false, false, false, false, false, false, false, false, false, false, false, false, false, false, false, false, false, false, false, false] (sels_eq rfl rfl) (by decide +kernel) rfl 0 5 rfl rfl rfl ⟨Nat.le_of_ble_eq_true rfl, Nat.le_of_ble_eq_true rfl⟩ hl.1 (Nat.le_of_ble_eq_true rfl) dL_law_581 ⟨by show nC + 0 + 0 ≤ 600000; omega, by show nS + 0 + 0 ≤ 7302250; omega⟩ (fun r_7 u_9 H locs h_8 => ?_)
  clear hP hD hS
  intro hP hD hS
  obtain ⟨tN_10, fNr_11, rfl, h_12, h_8⟩ := h_8
  have hPD := pd_as (([_, _, _, _, _, _, _, _, _, _, _, _, _, _, _, _, _, _, _, _, _, zzO (aM 0) 5 [.ref (aM 1), .ref (aM 2), .ref (aM 3), .ref (aM 14), .ref (aM 4), .ref (aM 5), .ref (aM 6), .ref (aM 7), .int (nI kY), .ref (aM 8), .int (nI (T_nb tN_10)), .ref (aM 15), .int (nI (T_np tN_10)), .ref (aM 16), .ref (aM 17), .int iEn, .int iTk, .int (T_sd tN_10), ov uP, ov uU, .int (nI kAt), .int iTo, .int iFr, .long JFi, .int iFa, .ref (aM 9), .int iSt, .int iLv, .int iWs, ovL wL, .ref (aM 10), .ref (aM 11), .ref (aM 12), .ref (aM 13), .int iOm], _, zzI cy (rB 0) 4 (bkR tN_10 0), zzI cy (rB 1) 4 (bkR tN_10 1), zzI cy (rB 2) 4 (bkR tN_10 2), zzI cy (rB 3) 4 (bkR tN_10 3), zzI cy (rB 4) 4 (bkR tN_10 4), zzI cy (rB 5) 4 (bkR tN_10 5), zzI cy (rB 6) 4 (bkR tN_10 6), zzI cy (rB 7) 4 (bkR tN_10 7), _, zzI cy (rO 0) 5 (onR tN_10 0), zzI cy (rO 1) 5 (onR tN_10 1), zzI cy (rO 2) 5 (onR tN_10 2), zzI cy (rO 3) 5 (onR tN_10 3), zzI cy (rO 4) 5 (onR tN_10 4), zzI cy (rO 5) 5 (onR tN_10 5), zzI cy (rO 6) 5 (onR tN_10 6), zzI cy (rO 7) 5 (onR tN_10 7), _, zzI cy (rK 0) 8 (T_kn tN_10 0), zzI cy (rK 1) 8 (T_kn tN_10 1), zzI cy (rK 2) 8 (T_kn tN_10 2), zzI cy (rK 3) 8 (T_kn tN_10 3), zzI cy (rK 4) 8 (T_kn tN_10 4), zzI cy (rK 5) 8 (T_kn tN_10 5), zzI cy (rK 6) 8 (T_kn tN_10 6), zzI cy (rK 7) 8 (T_kn tN_10 7), zzI cy (aM 8) 8 fNr_11] : va_W) ++ (((oM cy uU) ++ ((oL cy wL) ++ ((oM cy uP) ++ (oM cy uS0 ++ (oM cy uS1 ++ (oM cy uS2 ++ (oM cy uS3 ++ oM cy uS4))))))) ++ (XW cy aX iKp iYe iTv fX_4 tN_5 tB iL iBs tU tV fH fS fA gE kZ iT1 iT2 iT3 iT4 fB tD))) hP hD rfl
  clear hP hD
  obtain ⟨hP, hD⟩ := hPD
  have hPD := pt_as (MK cy aM rR rB rO rK fMh fMo fMz gMv fMk fMa fMt kY fNr_11 fM3 fMu fMy fMb eR tN_10 iEn iTk uP uU kAt iTo iFr JFi iFa iSt iLv iWs wL uS0 uS1 uS2 uS3 uS4 iOm) [21, 0, 1, 2, 3, 4, 5, 6, 49, 7, 8, 9, 10, 11, 12, 13, 14, 15, 16, 17, 18, 19, 20, 22, 23, 24, 25, 26, 27, 28, 29, 30, 31, 32, 33, 34, 35, 36, 37, 38, 39, 40, 41, 42, 43, 44, 45, 46, 47, 48] hP hD (by decide +kernel) rfl
  clear hP hD
  obtain ⟨hP, hD⟩ := hPD
  replace hP : va_P G CL ((XW cy aX iKp iYe iTv fX_4 tN_5 tB iL iBs tU tV fH fS fA gE kZ iT1 iT2 iT3 iT4 fB tD) ++ ((MK cy aM rR rB rO rK fMh fMo fMz gMv fMk fMa fMt kY fNr_11 fM3 fMu fMy fMb eR tN_10 iEn iTk uP uU kAt iTo iFr JFi iFa iSt iLv iWs wL uS0 uS1 uS2 uS3 uS4 iOm) ++ ((oM cy uU) ++ ((oL cy wL) ++ ((oM cy uP) ++ (oM cy uS0 ++ (oM cy uS1 ++ (oM cy uS2 ++ (oM cy uS3 ++ oM cy uS4))))))))) H := ofNP hP
  replace hD : va_D A ((XW cy aX iKp iYe iTv fX_4 tN_5 tB iL iBs tU tV fH fS fA gE kZ iT1 iT2 iT3 iT4 fB tD) ++ ((MK cy aM rR rB rO rK fMh fMo fMz gMv fMk fMa fMt kY fNr_11 fM3 fMu fMy fMb eR tN_10 iEn iTk uP uU kAt iTo iFr JFi iFa iSt iLv iWs wL uS0 uS1 uS2 uS3 uS4 iOm) ++ ((oM cy uU) ++ ((oL cy wL) ++ ((oM cy uP) ++ (oM cy uS0 ++ (oM cy uS1 ++ (oM cy uS2 ++ (oM cy uS3 ++ oM cy uS4))))))))) := ofND hD
  refine lv_pop hx hb dL_law_584 rfl ?_
  refine lv_goto (tgt := 1807) hx hb dL_law_585 (by decide) ?_
  refine W.widen (k := nC + 250) (n := nS + 4440) (by omega) (by omega) ?_
  exact kk _ _ (linv_mk hP hD (sx_t hsX (nb_book hsX.1 h_6)) (sm_t hsM h_12.1.1) (⟨hLR.1, ⟨(book_k hLR.2.1 h_6 h_12.2).2, h_12.1, hLR.2.2.2⟩⟩)) hS
set_option maxHeartbeats 4000000 in
set_option maxRecDepth 100000 in
theorem law_8 {p : Program} {l : Launch} {e : Env} {s : State} {m : MethodId} {below : List Frame} {meth : Method} {c : Code} {b L : Nat} {xs : Nat → Int32} {A : Nat → Prop} {G : va_G} {cy : Nat → ClassId} {aX aM rR rB rO rK : Nat → Nat} (hx : p.tables.exec = Jvm.exec) (hb : c.code = code) (hr : meth.sig.returnType = ret) (hml : c.maxLocals = 4) (hown : s.vm.findClass RL = some m.cls) (hts : ∀ w ∈ BIG, w.before #[Value.ref b] s = true) (hX : va_X b L xs s s.heap) (hbl : b < s.heap.size) (hlocks : meth.locks = false) (hN : KN G cy s) (hA : ∀ q : Nat, s.heap.size ≤ q → A q) (hAn : ∀ q : Nat, A q → s.heap.size ≤ q) (hbA : ¬ A b) (hSO : SO A s s.heap) {H : Heap} {locs : List Loc} {ls : Array Slot} {kI nC nS : Nat} (hkI : kI + 6 ≤ L) (hL : L ≤ 384) (hnC : nC + 250 ≤ 600000) (hnS : nS + 4440 ≤ 7302250) {iKp : Int32} {iYe : Int32} {iTv : Int32} {fR : Nat → Int32} {tA : TA} {tB : TA} {iL : Int32} {iBs : Int32} {tU : TA} {tV : TA} {fH : Nat → Int32} {fS : Nat → Int32} {fA : Nat → Int32} {gE : Nat → Int64} {kZ : Nat} {iT1 : Int32} {iT2 : Int32} {iT3 : Int32} {iT4 : Int32} {fB : Nat → Int32} {tD : TA} {fMh : Nat → Int32} {fMo : Nat → Int32} {fMz : Nat → Int32} {gMv : Nat → Int64} {fMk : Nat → Int32} {fMa : Nat → Int32} {fMt : Nat → Int32} {kY : Nat} {fMr : Nat → Int32} {fM3 : Nat → Int32} {fMu : Nat → Int32} {fMy : Nat → Int32} {fMb : Nat → Int32} {eR : Nat → Nat → Int64} {tM : TA} {iEn : Int32} {iTk : Int32} {uP : UM} {uU : UM} {kAt : Nat} {iTo : Int32} {iFr : Int32} {JFi : Int64} {iFa : Int32} {iSt : Int32} {iLv : Int32} {iWs : Int32} {wL : UL} {uS0 : UM} {uS1 : UM} {uS2 : UM} {uS3 : UM} {uS4 : UM} {iOm : Int32} (hP : va_P G CL ((XW cy aX iKp iYe iTv fR tA tB iL iBs tU tV fH fS fA gE kZ iT1 iT2 iT3 iT4 fB tD) ++ ((MK cy aM rR rB rO rK fMh fMo fMz gMv fMk fMa fMt kY fMr fM3 fMu fMy fMb eR tM iEn iTk uP uU kAt iTo iFr JFi iFa iSt iLv iWs wL uS0 uS1 uS2 uS3 uS4 iOm) ++ ((oM cy uU) ++ ((oL cy wL) ++ ((oM cy uP) ++ (oM cy uS0 ++ (oM cy uS1 ++ (oM cy uS2 ++ (oM cy uS3 ++ oM cy uS4))))))))) H) (hD : va_D A ((XW cy aX iKp iYe iTv fR tA tB iL iBs tU tV fH fS fA gE kZ iT1 iT2 iT3 iT4 fB tD) ++ ((MK cy aM rR rB rO rK fMh fMo fMz gMv fMk fMa fMt kY fMr fM3 fMu fMy fMb eR tM iEn iTk uP uU kAt iTo iFr JFi iFa iSt iLv iWs wL uS0 uS1 uS2 uS3 uS4 iOm) ++ ((oM cy uU) ++ ((oL cy wL) ++ ((oM cy uP) ++ (oM cy uS0 ++ (oM cy uS1 ++ (oM cy uS2 ++ (oM cy uS3 ++ oM cy uS4)))))))))) (hsX : SX tA tB tD fS kZ) (hsM : SM tM uP fMz fMa kY) (hLR : LR iKp tA tB fH fS fA gE kZ fMh fMo fMz fMk fMa eR kY tM uP fB fMt) (hS : va_S A s.heap H locs) (hl : lv_has ls 4 [(3, .int (nI kI)), (2, .ref (aM 0)), (1, .ref (aX 0)), (0, .ref b)]) (kk : ∀ (H : Heap) (locs : List Loc), LINV G cy A H aX aM rR rB rO rK → va_S A s.heap H locs → W p l e room_1 s m #[Value.ref b] below meth c H locs (nC + 250) (nS + 4440) (lw_Z below #[Value.ref b] s) (F0 m 1807 ls [])) : W p l e room_1 s m #[Value.ref b] below meth c H locs nC nS (lw_Z below #[Value.ref b] s) (F0 m 588 ls []) := by
  refine lv_aload_n hx hb dL_law_588 rfl (lv_at hl 2 rfl) ?_
  refine lv_aload_n hx hb dL_law_589 rfl (lv_at hl 3 rfl) ?_
  refine lv_iload_n hx hb dL_law_590 rfl (lv_at hl 0 rfl) ?_
  refine lv_iconst (v := 1) hx hb dL_law_591 (by decide) ?_
  refine lv_iadd hx hb dL_law_592 ?_
  refine lv_seti (v := nI (kI + 1)) (nI_add _ _) ?_
  refine va_sld hx hb hX hbl hbA hS (vp_in_nI (by omega) (by omega)) dL_law_593 ?_
  refine lv_seti (v := xs (kI + 1)) (congrArg xs (nI_clamp (by omega))) ?_
  refine lv_aload_n hx hb dL_law_594 rfl (lv_at hl 3 rfl) ?_
  refine lv_iload_n hx hb dL_law_595 rfl (lv_at hl 0 rfl) ?_
  refine lv_iconst (v := 2) hx hb dL_law_596 (by decide) ?_
  refine lv_iadd hx hb dL_law_597 ?_
  refine lv_seti (v := nI (kI + 2)) (nI_add _ _) ?_
  refine va_sld hx hb hX hbl hbA hS (vp_in_nI (by omega) (by omega)) dL_law_598 ?_
  refine lv_seti (v := xs (kI + 2)) (congrArg xs (nI_clamp (by omega))) ?_
  refine lv_aload_n hx hb dL_law_599 rfl (lv_at hl 3 rfl) ?_
  refine lv_iload_n hx hb dL_law_600 rfl (lv_at hl 0 rfl) ?_
  refine lv_iconst (v := 3) hx hb dL_law_601 (by decide) ?_
  refine lv_iadd hx hb dL_law_602 ?_
  refine lv_seti (v := nI (kI + 3)) (nI_add _ _) ?_
  refine va_sld hx hb hX hbl hbA hS (vp_in_nI (by omega) (by omega)) dL_law_603 ?_
  refine lv_seti (v := xs (kI + 3)) (congrArg xs (nI_clamp (by omega))) ?_
  refine lv_aload_n hx hb dL_law_604 rfl (lv_at hl 3 rfl) ?_
  refine lv_iload_n hx hb dL_law_605 rfl (lv_at hl 0 rfl) ?_
  refine lv_iconst (v := 4) hx hb dL_law_606 (by decide) ?_
  refine lv_iadd hx hb dL_law_607 ?_
  refine lv_seti (v := nI (kI + 4)) (nI_add _ _) ?_
  refine va_sld hx hb hX hbl hbA hS (vp_in_nI (by omega) (by omega)) dL_law_608 ?_
  refine lv_seti (v := xs (kI + 4)) (congrArg xs (nI_clamp (by omega))) ?_
  have hPD := pd_as (([zzO (aX 0) 4 [.ref (aX 2), .ref (aX 11), .ref (aX 20), .ref (aX 39), .ref (aX 44), .ref (aX 1), .int iKp, .int iYe, .int iTv], zzI cy (aX 1) 5 fR, zzO (aX 2) 3 [.int (nI (T_nb tA)), .int (nI (T_np tA)), .int (wb (T_wh tA)), .int (wb (T_gn tA)), .int (T_sd tA), .ref (aX 3), .ref (aX 4), .ref (aX 5), .ref (aX 6), .ref (aX 7), .ref (aX 8), .ref (aX 9), .ref (aX 10)], zzI cy (aX 3) 8 (T_wo tA), zzI cy (aX 4) 8 (T_ne tA), zzI cy (aX 5) 8 (T_go tA), zzI cy (aX 6) 8 (T_ag tA), zzI cy (aX 7) 8 (T_re tA), zzI cy (aX 8) 8 (T_me tA), zzI cy (aX 9) 8 (T_te tA), zzI cy (aX 10) 64 (shF (T_kn tA)), zzO (aX 11) 3 [.int (nI (T_nb tB)), .int (nI (T_np tB)), .int (wb (T_wh tB)), .int (wb (T_gn tB)), .int (T_sd tB), .ref (aX 12), .ref (aX 13), .ref (aX 14), .ref (aX 15), .ref (aX 16), .ref (aX 17), .ref (aX 18), .ref (aX 19)], zzI cy (aX 12) 8 (T_wo tB), zzI cy (aX 13) 8 (T_ne tB), zzI cy (aX 14) 8 (T_go tB), zzI cy (aX 15) 8 (T_ag tB), zzI cy (aX 16) 8 (T_re tB), zzI cy (aX 17) 8 (T_me tB), zzI cy (aX 18) 8 (T_te tB), zzI cy (aX 19) 64 (shF (T_kn tB)), zzO (aX 20) 0 [.ref (aX 21), .ref (aX 30), .int iL, .int iBs], zzO (aX 21) 3 [.int (nI (T_nb tU)), .int (nI (T_np tU)), .int (wb (T_wh tU)), .int (wb (T_gn tU)), .int (T_sd tU), .ref (aX 22), .ref (aX 23), .ref (aX 24), .ref (aX 25), .ref (aX 26), .ref (aX 27), .ref (aX 28), .ref (aX 29)], zzI cy (aX 22) 8 (T_wo tU), zzI cy (aX 23) 8 (T_ne tU), zzI cy (aX 24) 8 (T_go tU), zzI cy (aX 25) 8 (T_ag tU), zzI cy (aX 26) 8 (T_re tU), zzI cy (aX 27) 8 (T_me tU), zzI cy (aX 28) 8 (T_te tU), zzI cy (aX 29) 64 (shF (T_kn tU)), zzO (aX 30) 3 [.int (nI (T_nb tV)), .int (nI (T_np tV)), .int (wb (T_wh tV)), .int (wb (T_gn tV)), .int (T_sd tV), .ref (aX 31), .ref (aX 32), .ref (aX 33), .ref (aX 34), .ref (aX 35), .ref (aX 36), .ref (aX 37), .ref (aX 38)], zzI cy (aX 31) 8 (T_wo tV), zzI cy (aX 32) 8 (T_ne tV), zzI cy (aX 33) 8 (T_go tV), zzI cy (aX 34) 8 (T_ag tV), zzI cy (aX 35) 8 (T_re tV), zzI cy (aX 36) 8 (T_me tV), zzI cy (aX 37) 8 (T_te tV), zzI cy (aX 38) 64 (shF (T_kn tV)), zzO (aX 39) 1 [.ref (aX 40), .ref (aX 41), .ref (aX 42), .ref (aX 43)], zzI cy (aX 40) 8 fH, zzI cy (aX 41) 8 fS, zzI cy (aX 42) 8 fA, zzJ cy (aX 43) 320 gE, zzO (aX 44) 2 [.ref (aX 45), .int (nI kZ), .int iT1, .int iT2, .int iT3, .int iT4, .ref (aX 46)], zzB cy (aX 45) 250 fB, zzO (aX 46) 3 [.int (nI (T_nb tD)), .int (nI (T_np tD)), .int (wb (T_wh tD)), .int (wb (T_gn tD)), .int (T_sd tD), .ref (aX 47), .ref (aX 48), .ref (aX 49), .ref (aX 50), .ref (aX 51), .ref (aX 52), .ref (aX 53), .ref (aX 54)], zzI cy (aX 47) 8 (T_wo tD), zzI cy (aX 48) 8 (T_ne tD), zzI cy (aX 49) 8 (T_go tD), zzI cy (aX 50) 8 (T_ag tD), zzI cy (aX 51) 8 (T_re tD), zzI cy (aX 52) 8 (T_me tD), zzI cy (aX 53) 8 (T_te tD), zzI cy (aX 54) 64 (shF (T_kn tD))] : va_W) ++ ((MK cy aM rR rB rO rK fMh fMo fMz gMv fMk fMa fMt kY fMr fM3 fMu fMy fMb eR tM iEn iTk uP uU kAt iTo iFr JFi iFa iSt iLv iWs wL uS0 uS1 uS2 uS3 uS4 iOm) ++ ((oM cy uU) ++ ((oL cy wL) ++ ((oM cy uP) ++ (oM cy uS0 ++ (oM cy uS1 ++ (oM cy uS2 ++ (oM cy uS3 ++ oM cy uS4))))))))) hP hD rfl
  clear hP hD
  obtain ⟨hP, hD⟩ := hPD
  refine cViQ (As := [.int (xs (kI + 1)), .int (xs (kI + 2)), .int (xs (kI + 3)), .int (xs (kI + 4))]) (rest := []) (b := (aX 0)) (q := (RX5, TX5, 9)) ⟨hx, hb, hml, hown, hts⟩ (p_X5_one l G cy (H).size (aX 0) (aX 2) (aX 11) (aX 20) (aX 39) (aX 44) (aX 1) iKp iYe iTv fR tA (aX 3) (aX 4) (aX 5) (aX 6) (aX 7) (aX 8) (aX 9) (aX 10) (xs (kI + 1)) (xs (kI + 2)) (xs (kI + 3)) (xs (kI + 4)) hsX.1.1 hsX.1.2) L_L_53 hN hP hD hS hA (trueIx 0 [true, true, true, true, true, true, true, true, true, true, true]) [false, false, false, false, false, false, false, false, false, false, false, true, true, true, true, true, true, true, true, true, true, true, true, true, true, true, true, true, true, true, true, true, true, true, true, true, true, true, true, true, true, true, true, true, true, true, true, true, true, true, true, true, true, true, true] (sel_eq rfl rfl) (by decide +kernel) rfl 0 4 rfl rfl rfl ⟨Nat.le_of_ble_eq_true rfl, Nat.le_of_ble_eq_true rfl⟩ hl.1 (Nat.le_of_ble_eq_true rfl) dL_law_609 ⟨by show nC + 0 ≤ 600000; omega, by show nS + 0 ≤ 7302250; omega⟩ (fun r_1 u_3 H locs h_2 => ?_)
  clear hP hD hS
  intro hP hD hS
  obtain ⟨fX_4, tN_5, rfl, h_6, h_2⟩ := h_2
  have hPD := pd_as (([_, _, _, _, _, _, _, _, _, _, _, _, _, _, _, _, _, _, _, _, _, _, _, _, _, _, _, _, _, _, _, _, _, _, _, _, _, _, _, _, _, _, _, _, _, zzI cy (aX 1) 5 fX_4, zzO (aX 2) 3 [.int (nI (T_nb tN_5)), .int (nI (T_np tN_5)), .int (wb (T_wh tN_5)), .int (wb (T_gn tN_5)), .int (T_sd tN_5), .ref (aX 3), .ref (aX 4), .ref (aX 5), .ref (aX 6), .ref (aX 7), .ref (aX 8), .ref (aX 9), .ref (aX 10)], zzI cy (aX 3) 8 (T_wo tN_5), zzI cy (aX 4) 8 (T_ne tN_5), zzI cy (aX 5) 8 (T_go tN_5), zzI cy (aX 6) 8 (T_ag tN_5), zzI cy (aX 7) 8 (T_re tN_5), zzI cy (aX 8) 8 (T_me tN_5), zzI cy (aX 9) 8 (T_te tN_5), zzI cy (aX 10) 64 (shF (T_kn tN_5))] : va_W) ++ ((MK cy aM rR rB rO rK fMh fMo fMz gMv fMk fMa fMt kY fMr fM3 fMu fMy fMb eR tM iEn iTk uP uU kAt iTo iFr JFi iFa iSt iLv iWs wL uS0 uS1 uS2 uS3 uS4 iOm) ++ ((oM cy uU) ++ ((oL cy wL) ++ ((oM cy uP) ++ (oM cy uS0 ++ (oM cy uS1 ++ (oM cy uS2 ++ (oM cy uS3 ++ oM cy uS4))))))))) hP hD rfl
  clear hP hD
  obtain ⟨hP, hD⟩ := hPD
  have hPD := pt_as (XW cy aX iKp iYe iTv fX_4 tN_5 tB iL iBs tU tV fH fS fA gE kZ iT1 iT2 iT3 iT4 fB tD) [44, 45, 46, 47, 48, 49, 50, 51, 52, 53, 54, 0, 1, 2, 3, 4, 5, 6, 7, 8, 9, 10, 11, 12, 13, 14, 15, 16, 17, 18, 19, 20, 21, 22, 23, 24, 25, 26, 27, 28, 29, 30, 31, 32, 33, 34, 35, 36, 37, 38, 39, 40, 41, 42, 43] hP hD (by decide +kernel) rfl
  clear hP hD
  obtain ⟨hP, hD⟩ := hPD
  refine lv_pop hx hb dL_law_612 rfl ?_
  refine lv_aload_n hx hb dL_law_613 rfl (lv_at hl 1 rfl) ?_
  refine lv_aload_n hx hb dL_law_614 rfl (lv_at hl 3 rfl) ?_
  refine lv_iload_n hx hb dL_law_615 rfl (lv_at hl 0 rfl) ?_
  refine lv_iconst (v := 1) hx hb dL_law_616 (by decide) ?_
  refine lv_iadd hx hb dL_law_617 ?_
  refine lv_seti (v := nI (kI + 1)) (nI_add _ _) ?_
  refine va_sld hx hb hX hbl hbA hS (vp_in_nI (by omega) (by omega)) dL_law_618 ?_
  refine lv_seti (v := xs (kI + 1)) (congrArg xs (nI_clamp (by omega))) ?_
  refine lv_aload_n hx hb dL_law_619 rfl (lv_at hl 3 rfl) ?_
  refine lv_iload_n hx hb dL_law_620 rfl (lv_at hl 0 rfl) ?_
  refine lv_iconst (v := 2) hx hb dL_law_621 (by decide) ?_
  refine lv_iadd hx hb dL_law_622 ?_
  refine lv_seti (v := nI (kI + 2)) (nI_add _ _) ?_
  refine va_sld hx hb hX hbl hbA hS (vp_in_nI (by omega) (by omega)) dL_law_623 ?_
  refine lv_seti (v := xs (kI + 2)) (congrArg xs (nI_clamp (by omega))) ?_
  refine lv_aload_n hx hb dL_law_624 rfl (lv_at hl 3 rfl) ?_
  refine lv_iload_n hx hb dL_law_625 rfl (lv_at hl 0 rfl) ?_
  refine lv_iconst (v := 3) hx hb dL_law_626 (by decide) ?_
  refine lv_iadd hx hb dL_law_627 ?_
  refine lv_seti (v := nI (kI + 3)) (nI_add _ _) ?_
  refine va_sld hx hb hX hbl hbA hS (vp_in_nI (by omega) (by omega)) dL_law_628 ?_
  refine lv_seti (v := xs (kI + 3)) (congrArg xs (nI_clamp (by omega))) ?_
  refine lv_aload_n hx hb dL_law_629 rfl (lv_at hl 3 rfl) ?_
  refine lv_iload_n hx hb dL_law_630 rfl (lv_at hl 0 rfl) ?_
  refine lv_iconst (v := 4) hx hb dL_law_631 (by decide) ?_
  refine lv_iadd hx hb dL_law_632 ?_
  refine lv_seti (v := nI (kI + 4)) (nI_add _ _) ?_
  refine va_sld hx hb hX hbl hbA hS (vp_in_nI (by omega) (by omega)) dL_law_633 ?_
  refine lv_seti (v := xs (kI + 4)) (congrArg xs (nI_clamp (by omega))) ?_
  replace hP : va_P G CL ((MK cy aM rR rB rO rK fMh fMo fMz gMv fMk fMa fMt kY fMr fM3 fMu fMy fMb eR tM iEn iTk uP uU kAt iTo iFr JFi iFa iSt iLv iWs wL uS0 uS1 uS2 uS3 uS4 iOm) ++ (((oM cy uU) ++ ((oL cy wL) ++ ((oM cy uP) ++ (oM cy uS0 ++ (oM cy uS1 ++ (oM cy uS2 ++ (oM cy uS3 ++ oM cy uS4))))))) ++ (XW cy aX iKp iYe iTv fX_4 tN_5 tB iL iBs tU tV fH fS fA gE kZ iT1 iT2 iT3 iT4 fB tD))) H := toNP hP
  replace hD : va_D A ((MK cy aM rR rB rO rK fMh fMo fMz gMv fMk fMa fMt kY fMr fM3 fMu fMy fMb eR tM iEn iTk uP uU kAt iTo iFr JFi iFa iSt iLv iWs wL uS0 uS1 uS2 uS3 uS4 iOm) ++ (((oM cy uU) ++ ((oL cy wL) ++ ((oM cy uP) ++ (oM cy uS0 ++ (oM cy uS1 ++ (oM cy uS2 ++ (oM cy uS3 ++ oM cy uS4))))))) ++ (XW cy aX iKp iYe iTv fX_4 tN_5 tB iL iBs tU tV fH fS fA gE kZ iT1 iT2 iT3 iT4 fB tD))) := toND hD
  have hPD := pd_as (([zzO (aM 0) 5 [.ref (aM 1), .ref (aM 2), .ref (aM 3), .ref (aM 14), .ref (aM 4), .ref (aM 5), .ref (aM 6), .ref (aM 7), .int (nI kY), .ref (aM 8), .int (nI (T_nb tM)), .ref (aM 15), .int (nI (T_np tM)), .ref (aM 16), .ref (aM 17), .int iEn, .int iTk, .int (T_sd tM), ov uP, ov uU, .int (nI kAt), .int iTo, .int iFr, .long JFi, .int iFa, .ref (aM 9), .int iSt, .int iLv, .int iWs, ovL wL, .ref (aM 10), .ref (aM 11), .ref (aM 12), .ref (aM 13), .int iOm], zzI cy (aM 1) 8 fMh, zzI cy (aM 2) 8 fMo, zzI cy (aM 3) 8 fMz, zzJ cy (aM 4) 40 gMv, zzI cy (aM 5) 8 fMk, zzI cy (aM 6) 8 fMa, zzI cy (aM 7) 250 fMt, zzI cy (aM 8) 8 fMr, zzI cy (aM 9) 3 fM3, zzI cy (aM 10) 8 fMu, zzI cy (aM 11) 5 fMy, zzI cy (aM 12) 5 fMb, zzQ cy 5 (aM 13) 6 (sF (refU uS0) (refU uS1) (refU uS2) (refU uS3) (refU uS4)), zzG cy 4 (aM 14) rR, zzJ cy (rR 0) 40 (eR 0), zzJ cy (rR 1) 40 (eR 1), zzJ cy (rR 2) 40 (eR 2), zzJ cy (rR 3) 40 (eR 3), zzJ cy (rR 4) 40 (eR 4), zzJ cy (rR 5) 40 (eR 5), zzJ cy (rR 6) 40 (eR 6), zzJ cy (rR 7) 40 (eR 7), zzG cy 3 (aM 15) rB, zzI cy (rB 0) 4 (bkR tM 0), zzI cy (rB 1) 4 (bkR tM 1), zzI cy (rB 2) 4 (bkR tM 2), zzI cy (rB 3) 4 (bkR tM 3), zzI cy (rB 4) 4 (bkR tM 4), zzI cy (rB 5) 4 (bkR tM 5), zzI cy (rB 6) 4 (bkR tM 6), zzI cy (rB 7) 4 (bkR tM 7), zzG cy 3 (aM 16) rO, zzI cy (rO 0) 5 (onR tM 0), zzI cy (rO 1) 5 (onR tM 1), zzI cy (rO 2) 5 (onR tM 2), zzI cy (rO 3) 5 (onR tM 3), zzI cy (rO 4) 5 (onR tM 4), zzI cy (rO 5) 5 (onR tM 5), zzI cy (rO 6) 5 (onR tM 6), zzI cy (rO 7) 5 (onR tM 7), zzG cy 3 (aM 17) rK, zzI cy (rK 0) 8 (T_kn tM 0), zzI cy (rK 1) 8 (T_kn tM 1), zzI cy (rK 2) 8 (T_kn tM 2), zzI cy (rK 3) 8 (T_kn tM 3), zzI cy (rK 4) 8 (T_kn tM 4), zzI cy (rK 5) 8 (T_kn tM 5), zzI cy (rK 6) 8 (T_kn tM 6), zzI cy (rK 7) 8 (T_kn tM 7)] : va_W) ++ (((oM cy uU) ++ ((oL cy wL) ++ ((oM cy uP) ++ (oM cy uS0 ++ (oM cy uS1 ++ (oM cy uS2 ++ (oM cy uS3 ++ oM cy uS4))))))) ++ (XW cy aX iKp iYe iTv fX_4 tN_5 tB iL iBs tU tV fH fS fA gE kZ iT1 iT2 iT3 iT4 fB tD))) hP hD rfl
  clear hP hD
  obtain ⟨hP, hD⟩ := hPD
  refine cViQ (As := [.int (xs (kI + 1)), .int (xs (kI + 2)), .int (xs (kI + 3)), .int (xs (kI + 4))]) (rest := []) (b := (aM 0)) (q := (RX6, TX6, 35)) ⟨hx, hb, hml, hown, hts⟩ (x_X6_one l G cy (H).size (aM 0) (aM 1) (aM 2) (aM 3) (aM 14) (aM 4) (aM 5) (aM 6) (aM 7) kY (aM 8) tM (aM 15) (aM 16) (aM 17) iEn iTk uP uU kAt iTo iFr JFi iFa (aM 9) iSt iLv iWs (ovL wL) (aM 10) (aM 11) (aM 12) (aM 13) iOm rB rO rK fMr (xs (kI + 1)) (xs (kI + 2)) (xs (kI + 3)) (xs (kI + 4)) hsM.1.1.1 hsM.1.1.2 hsM.1 hLR.2.2.1) L_L_57 hN hP hD hS hA (trueIxs [[true, false, false, false, false, false, false, false, false, false, false, false, false, false, false, false, false, false, false, false, false, false, false, true, true, true, true, true, true, true, true, true, true, true, true, true, true, true, true, true, true, true, true, true, true, true, true, true, true, true], [false, false, false, false, false, false, false, false, true]]) [false, true, true, true, true, true, true, true, false, true, true, true, true, true, true, true, true, true, true, true, true, true, true, false, false, false, false, false, false, false, false, false, false, false, false, false, false, false, false, false, false, false, false, false, false, false, false, false, false, false] (sels_eq rfl rfl) (by decide +kernel) rfl 0 5 rfl rfl rfl ⟨Nat.le_of_ble_eq_true rfl, Nat.le_of_ble_eq_true rfl⟩ hl.1 (Nat.le_of_ble_eq_true rfl) dL_law_634 ⟨by show nC + 0 + 0 ≤ 600000; omega, by show nS + 0 + 0 ≤ 7302250; omega⟩ (fun r_7 u_9 H locs h_8 => ?_)
  clear hP hD hS
  intro hP hD hS
  obtain ⟨tN_10, fNr_11, rfl, h_12, h_8⟩ := h_8
  have hPD := pd_as (([_, _, _, _, _, _, _, _, _, _, _, _, _, _, _, _, _, _, _, _, _, zzO (aM 0) 5 [.ref (aM 1), .ref (aM 2), .ref (aM 3), .ref (aM 14), .ref (aM 4), .ref (aM 5), .ref (aM 6), .ref (aM 7), .int (nI kY), .ref (aM 8), .int (nI (T_nb tN_10)), .ref (aM 15), .int (nI (T_np tN_10)), .ref (aM 16), .ref (aM 17), .int iEn, .int iTk, .int (T_sd tN_10), ov uP, ov uU, .int (nI kAt), .int iTo, .int iFr, .long JFi, .int iFa, .ref (aM 9), .int iSt, .int iLv, .int iWs, ovL wL, .ref (aM 10), .ref (aM 11), .ref (aM 12), .ref (aM 13), .int iOm], _, zzI cy (rB 0) 4 (bkR tN_10 0), zzI cy (rB 1) 4 (bkR tN_10 1), zzI cy (rB 2) 4 (bkR tN_10 2), zzI cy (rB 3) 4 (bkR tN_10 3), zzI cy (rB 4) 4 (bkR tN_10 4), zzI cy (rB 5) 4 (bkR tN_10 5), zzI cy (rB 6) 4 (bkR tN_10 6), zzI cy (rB 7) 4 (bkR tN_10 7), _, zzI cy (rO 0) 5 (onR tN_10 0), zzI cy (rO 1) 5 (onR tN_10 1), zzI cy (rO 2) 5 (onR tN_10 2), zzI cy (rO 3) 5 (onR tN_10 3), zzI cy (rO 4) 5 (onR tN_10 4), zzI cy (rO 5) 5 (onR tN_10 5), zzI cy (rO 6) 5 (onR tN_10 6), zzI cy (rO 7) 5 (onR tN_10 7), _, zzI cy (rK 0) 8 (T_kn tN_10 0), zzI cy (rK 1) 8 (T_kn tN_10 1), zzI cy (rK 2) 8 (T_kn tN_10 2), zzI cy (rK 3) 8 (T_kn tN_10 3), zzI cy (rK 4) 8 (T_kn tN_10 4), zzI cy (rK 5) 8 (T_kn tN_10 5), zzI cy (rK 6) 8 (T_kn tN_10 6), zzI cy (rK 7) 8 (T_kn tN_10 7), zzI cy (aM 8) 8 fNr_11] : va_W) ++ (((oM cy uU) ++ ((oL cy wL) ++ ((oM cy uP) ++ (oM cy uS0 ++ (oM cy uS1 ++ (oM cy uS2 ++ (oM cy uS3 ++ oM cy uS4))))))) ++ (XW cy aX iKp iYe iTv fX_4 tN_5 tB iL iBs tU tV fH fS fA gE kZ iT1 iT2 iT3 iT4 fB tD))) hP hD rfl
  clear hP hD
  obtain ⟨hP, hD⟩ := hPD
  have hPD := pt_as (MK cy aM rR rB rO rK fMh fMo fMz gMv fMk fMa fMt kY fNr_11 fM3 fMu fMy fMb eR tN_10 iEn iTk uP uU kAt iTo iFr JFi iFa iSt iLv iWs wL uS0 uS1 uS2 uS3 uS4 iOm) [21, 0, 1, 2, 3, 4, 5, 6, 49, 7, 8, 9, 10, 11, 12, 13, 14, 15, 16, 17, 18, 19, 20, 22, 23, 24, 25, 26, 27, 28, 29, 30, 31, 32, 33, 34, 35, 36, 37, 38, 39, 40, 41, 42, 43, 44, 45, 46, 47, 48] hP hD (by decide +kernel) rfl
  clear hP hD
  obtain ⟨hP, hD⟩ := hPD
  replace hP : va_P G CL ((XW cy aX iKp iYe iTv fX_4 tN_5 tB iL iBs tU tV fH fS fA gE kZ iT1 iT2 iT3 iT4 fB tD) ++ ((MK cy aM rR rB rO rK fMh fMo fMz gMv fMk fMa fMt kY fNr_11 fM3 fMu fMy fMb eR tN_10 iEn iTk uP uU kAt iTo iFr JFi iFa iSt iLv iWs wL uS0 uS1 uS2 uS3 uS4 iOm) ++ ((oM cy uU) ++ ((oL cy wL) ++ ((oM cy uP) ++ (oM cy uS0 ++ (oM cy uS1 ++ (oM cy uS2 ++ (oM cy uS3 ++ oM cy uS4))))))))) H := ofNP hP
  replace hD : va_D A ((XW cy aX iKp iYe iTv fX_4 tN_5 tB iL iBs tU tV fH fS fA gE kZ iT1 iT2 iT3 iT4 fB tD) ++ ((MK cy aM rR rB rO rK fMh fMo fMz gMv fMk fMa fMt kY fNr_11 fM3 fMu fMy fMb eR tN_10 iEn iTk uP uU kAt iTo iFr JFi iFa iSt iLv iWs wL uS0 uS1 uS2 uS3 uS4 iOm) ++ ((oM cy uU) ++ ((oL cy wL) ++ ((oM cy uP) ++ (oM cy uS0 ++ (oM cy uS1 ++ (oM cy uS2 ++ (oM cy uS3 ++ oM cy uS4))))))))) := ofND hD
  refine lv_pop hx hb dL_law_637 rfl ?_
  refine lv_goto (tgt := 1807) hx hb dL_law_638 (by decide) ?_
  refine W.widen (k := nC + 250) (n := nS + 4440) (by omega) (by omega) ?_
  exact kk _ _ (linv_mk hP hD (sx_t hsX (nb_one hsX.1 h_6)) (sm_t hsM h_12.1.1) (⟨hLR.1, ⟨(one_k hLR.2.1 h_6 h_12.2).2, h_12.1, hLR.2.2.2⟩⟩)) hS
set_option maxHeartbeats 4000000 in
set_option maxRecDepth 100000 in
theorem law_9 {p : Program} {l : Launch} {e : Env} {s : State} {m : MethodId} {below : List Frame} {meth : Method} {c : Code} {b L : Nat} {xs : Nat → Int32} {A : Nat → Prop} {G : va_G} {cy : Nat → ClassId} {aX aM rR rB rO rK : Nat → Nat} (hx : p.tables.exec = Jvm.exec) (hb : c.code = code) (hr : meth.sig.returnType = ret) (hml : c.maxLocals = 4) (hown : s.vm.findClass RL = some m.cls) (hts : ∀ w ∈ BIG, w.before #[Value.ref b] s = true) (hX : va_X b L xs s s.heap) (hbl : b < s.heap.size) (hlocks : meth.locks = false) (hN : KN G cy s) (hA : ∀ q : Nat, s.heap.size ≤ q → A q) (hAn : ∀ q : Nat, A q → s.heap.size ≤ q) (hbA : ¬ A b) (hSO : SO A s s.heap) {H : Heap} {locs : List Loc} {ls : Array Slot} {kI nC nS : Nat} (hkI : kI + 6 ≤ L) (hL : L ≤ 384) (hnC : nC + 250 ≤ 600000) (hnS : nS + 4440 ≤ 7302250) {iKp : Int32} {iYe : Int32} {iTv : Int32} {fR : Nat → Int32} {tA : TA} {tB : TA} {iL : Int32} {iBs : Int32} {tU : TA} {tV : TA} {fH : Nat → Int32} {fS : Nat → Int32} {fA : Nat → Int32} {gE : Nat → Int64} {kZ : Nat} {iT1 : Int32} {iT2 : Int32} {iT3 : Int32} {iT4 : Int32} {fB : Nat → Int32} {tD : TA} {fMh : Nat → Int32} {fMo : Nat → Int32} {fMz : Nat → Int32} {gMv : Nat → Int64} {fMk : Nat → Int32} {fMa : Nat → Int32} {fMt : Nat → Int32} {kY : Nat} {fMr : Nat → Int32} {fM3 : Nat → Int32} {fMu : Nat → Int32} {fMy : Nat → Int32} {fMb : Nat → Int32} {eR : Nat → Nat → Int64} {tM : TA} {iEn : Int32} {iTk : Int32} {uP : UM} {uU : UM} {kAt : Nat} {iTo : Int32} {iFr : Int32} {JFi : Int64} {iFa : Int32} {iSt : Int32} {iLv : Int32} {iWs : Int32} {wL : UL} {uS0 : UM} {uS1 : UM} {uS2 : UM} {uS3 : UM} {uS4 : UM} {iOm : Int32} (hP : va_P G CL ((XW cy aX iKp iYe iTv fR tA tB iL iBs tU tV fH fS fA gE kZ iT1 iT2 iT3 iT4 fB tD) ++ ((MK cy aM rR rB rO rK fMh fMo fMz gMv fMk fMa fMt kY fMr fM3 fMu fMy fMb eR tM iEn iTk uP uU kAt iTo iFr JFi iFa iSt iLv iWs wL uS0 uS1 uS2 uS3 uS4 iOm) ++ ((oM cy uU) ++ ((oL cy wL) ++ ((oM cy uP) ++ (oM cy uS0 ++ (oM cy uS1 ++ (oM cy uS2 ++ (oM cy uS3 ++ oM cy uS4))))))))) H) (hD : va_D A ((XW cy aX iKp iYe iTv fR tA tB iL iBs tU tV fH fS fA gE kZ iT1 iT2 iT3 iT4 fB tD) ++ ((MK cy aM rR rB rO rK fMh fMo fMz gMv fMk fMa fMt kY fMr fM3 fMu fMy fMb eR tM iEn iTk uP uU kAt iTo iFr JFi iFa iSt iLv iWs wL uS0 uS1 uS2 uS3 uS4 iOm) ++ ((oM cy uU) ++ ((oL cy wL) ++ ((oM cy uP) ++ (oM cy uS0 ++ (oM cy uS1 ++ (oM cy uS2 ++ (oM cy uS3 ++ oM cy uS4)))))))))) (hsX : SX tA tB tD fS kZ) (hsM : SM tM uP fMz fMa kY) (hLR : LR iKp tA tB fH fS fA gE kZ fMh fMo fMz fMk fMa eR kY tM uP fB fMt) (hS : va_S A s.heap H locs) (hl : lv_has ls 4 [(3, .int (nI kI)), (2, .ref (aM 0)), (1, .ref (aX 0)), (0, .ref b)]) (kk : ∀ (H : Heap) (locs : List Loc), LINV G cy A H aX aM rR rB rO rK → va_S A s.heap H locs → W p l e room_1 s m #[Value.ref b] below meth c H locs (nC + 250) (nS + 4440) (lw_Z below #[Value.ref b] s) (F0 m 1807 ls [])) : W p l e room_1 s m #[Value.ref b] below meth c H locs nC nS (lw_Z below #[Value.ref b] s) (F0 m 641 ls []) := by
  refine lv_aload_n hx hb dL_law_641 rfl (lv_at hl 2 rfl) ?_
  refine lv_aload_n hx hb dL_law_642 rfl (lv_at hl 3 rfl) ?_
  refine lv_iload_n hx hb dL_law_643 rfl (lv_at hl 0 rfl) ?_
  refine lv_iconst (v := 1) hx hb dL_law_644 (by decide) ?_
  refine lv_iadd hx hb dL_law_645 ?_
  refine lv_seti (v := nI (kI + 1)) (nI_add _ _) ?_
  refine va_sld hx hb hX hbl hbA hS (vp_in_nI (by omega) (by omega)) dL_law_646 ?_
  refine lv_seti (v := xs (kI + 1)) (congrArg xs (nI_clamp (by omega))) ?_
  refine lv_aload_n hx hb dL_law_647 rfl (lv_at hl 3 rfl) ?_
  refine lv_iload_n hx hb dL_law_648 rfl (lv_at hl 0 rfl) ?_
  refine lv_iconst (v := 2) hx hb dL_law_649 (by decide) ?_
  refine lv_iadd hx hb dL_law_650 ?_
  refine lv_seti (v := nI (kI + 2)) (nI_add _ _) ?_
  refine va_sld hx hb hX hbl hbA hS (vp_in_nI (by omega) (by omega)) dL_law_651 ?_
  refine lv_seti (v := xs (kI + 2)) (congrArg xs (nI_clamp (by omega))) ?_
  have hPD := pd_as (([zzO (aX 0) 4 [.ref (aX 2), .ref (aX 11), .ref (aX 20), .ref (aX 39), .ref (aX 44), .ref (aX 1), .int iKp, .int iYe, .int iTv], zzI cy (aX 1) 5 fR, zzO (aX 2) 3 [.int (nI (T_nb tA)), .int (nI (T_np tA)), .int (wb (T_wh tA)), .int (wb (T_gn tA)), .int (T_sd tA), .ref (aX 3), .ref (aX 4), .ref (aX 5), .ref (aX 6), .ref (aX 7), .ref (aX 8), .ref (aX 9), .ref (aX 10)], zzI cy (aX 3) 8 (T_wo tA), zzI cy (aX 4) 8 (T_ne tA), zzI cy (aX 5) 8 (T_go tA), zzI cy (aX 6) 8 (T_ag tA), zzI cy (aX 7) 8 (T_re tA), zzI cy (aX 8) 8 (T_me tA), zzI cy (aX 9) 8 (T_te tA), zzI cy (aX 10) 64 (shF (T_kn tA)), zzO (aX 11) 3 [.int (nI (T_nb tB)), .int (nI (T_np tB)), .int (wb (T_wh tB)), .int (wb (T_gn tB)), .int (T_sd tB), .ref (aX 12), .ref (aX 13), .ref (aX 14), .ref (aX 15), .ref (aX 16), .ref (aX 17), .ref (aX 18), .ref (aX 19)], zzI cy (aX 12) 8 (T_wo tB), zzI cy (aX 13) 8 (T_ne tB), zzI cy (aX 14) 8 (T_go tB), zzI cy (aX 15) 8 (T_ag tB), zzI cy (aX 16) 8 (T_re tB), zzI cy (aX 17) 8 (T_me tB), zzI cy (aX 18) 8 (T_te tB), zzI cy (aX 19) 64 (shF (T_kn tB)), zzO (aX 20) 0 [.ref (aX 21), .ref (aX 30), .int iL, .int iBs], zzO (aX 21) 3 [.int (nI (T_nb tU)), .int (nI (T_np tU)), .int (wb (T_wh tU)), .int (wb (T_gn tU)), .int (T_sd tU), .ref (aX 22), .ref (aX 23), .ref (aX 24), .ref (aX 25), .ref (aX 26), .ref (aX 27), .ref (aX 28), .ref (aX 29)], zzI cy (aX 22) 8 (T_wo tU), zzI cy (aX 23) 8 (T_ne tU), zzI cy (aX 24) 8 (T_go tU), zzI cy (aX 25) 8 (T_ag tU), zzI cy (aX 26) 8 (T_re tU), zzI cy (aX 27) 8 (T_me tU), zzI cy (aX 28) 8 (T_te tU), zzI cy (aX 29) 64 (shF (T_kn tU)), zzO (aX 30) 3 [.int (nI (T_nb tV)), .int (nI (T_np tV)), .int (wb (T_wh tV)), .int (wb (T_gn tV)), .int (T_sd tV), .ref (aX 31), .ref (aX 32), .ref (aX 33), .ref (aX 34), .ref (aX 35), .ref (aX 36), .ref (aX 37), .ref (aX 38)], zzI cy (aX 31) 8 (T_wo tV), zzI cy (aX 32) 8 (T_ne tV), zzI cy (aX 33) 8 (T_go tV), zzI cy (aX 34) 8 (T_ag tV), zzI cy (aX 35) 8 (T_re tV), zzI cy (aX 36) 8 (T_me tV), zzI cy (aX 37) 8 (T_te tV), zzI cy (aX 38) 64 (shF (T_kn tV)), zzO (aX 39) 1 [.ref (aX 40), .ref (aX 41), .ref (aX 42), .ref (aX 43)], zzI cy (aX 40) 8 fH, zzI cy (aX 41) 8 fS, zzI cy (aX 42) 8 fA, zzJ cy (aX 43) 320 gE, zzO (aX 44) 2 [.ref (aX 45), .int (nI kZ), .int iT1, .int iT2, .int iT3, .int iT4, .ref (aX 46)], zzB cy (aX 45) 250 fB, zzO (aX 46) 3 [.int (nI (T_nb tD)), .int (nI (T_np tD)), .int (wb (T_wh tD)), .int (wb (T_gn tD)), .int (T_sd tD), .ref (aX 47), .ref (aX 48), .ref (aX 49), .ref (aX 50), .ref (aX 51), .ref (aX 52), .ref (aX 53), .ref (aX 54)], zzI cy (aX 47) 8 (T_wo tD), zzI cy (aX 48) 8 (T_ne tD), zzI cy (aX 49) 8 (T_go tD), zzI cy (aX 50) 8 (T_ag tD), zzI cy (aX 51) 8 (T_re tD), zzI cy (aX 52) 8 (T_me tD), zzI cy (aX 53) 8 (T_te tD), zzI cy (aX 54) 64 (shF (T_kn tD))] : va_W) ++ ((MK cy aM rR rB rO rK fMh fMo fMz gMv fMk fMa fMt kY fMr fM3 fMu fMy fMb eR tM iEn iTk uP uU kAt iTo iFr JFi iFa iSt iLv iWs wL uS0 uS1 uS2 uS3 uS4 iOm) ++ ((oM cy uU) ++ ((oL cy wL) ++ ((oM cy uP) ++ (oM cy uS0 ++ (oM cy uS1 ++ (oM cy uS2 ++ (oM cy uS3 ++ oM cy uS4))))))))) hP hD rfl
  clear hP hD
  obtain ⟨hP, hD⟩ := hPD
  refine cViQ (As := [.int (xs (kI + 1)), .int (xs (kI + 2))]) (rest := []) (b := (aX 0)) (q := (RX5, TX5, 9)) ⟨hx, hb, hml, hown, hts⟩ (p_X5_ones l G cy (H).size (aX 0) (aX 2) (aX 11) (aX 20) (aX 39) (aX 44) (aX 1) iKp iYe iTv fR (aX 40) (aX 41) (aX 42) (aX 43) fH fS gE tA (aX 3) (aX 4) (aX 5) (aX 6) (aX 7) (aX 8) (aX 9) (aX 10) (xs (kI + 1)) (xs (kI + 2)) hsX.1.1 hsX.1.2 hsX.2.2.2.1) L_L_58 hN hP hD hS hA (trueIxs [[true, true, false, false, false, false, false, false, false, false, false, false, false, false, false, false, false, false, false, false, false, false, false, false, false, false, false, false, false, false, false, false, false, false, false, false, false, false, false, true, true, true, false, true], [false, false, true, true, true, true, true, true, true, true, true]]) [false, false, false, false, false, false, false, false, false, false, false, true, true, true, true, true, true, true, true, true, true, true, true, true, true, true, true, true, true, true, true, true, true, true, true, true, true, true, true, false, false, false, true, false, true, true, true, true, true, true, true, true, true, true, true] (sels_eq rfl rfl) (by decide +kernel) rfl 0 4 rfl rfl rfl ⟨Nat.le_of_ble_eq_true rfl, Nat.le_of_ble_eq_true rfl⟩ hl.1 (Nat.le_of_ble_eq_true rfl) dL_law_652 ⟨by show nC + 0 ≤ 600000; omega, by show nS + 0 ≤ 7302250; omega⟩ (fun r_1 u_3 H locs h_2 => ?_)
  clear hP hD hS
  intro hP hD hS
  obtain ⟨fX_4, tN_5, rfl, h_6, h_2⟩ := h_2
  have hPD := pd_as (([_, _, _, _, _, _, _, _, _, _, _, _, _, _, _, _, _, _, _, _, _, _, _, _, _, _, _, _, _, _, _, _, _, _, _, _, _, _, _, _, _, zzI cy (aX 1) 5 fX_4, _, _, _, _, zzO (aX 2) 3 [.int (nI (T_nb tN_5)), .int (nI (T_np tN_5)), .int (wb (T_wh tN_5)), .int (wb (T_gn tN_5)), .int (T_sd tN_5), .ref (aX 3), .ref (aX 4), .ref (aX 5), .ref (aX 6), .ref (aX 7), .ref (aX 8), .ref (aX 9), .ref (aX 10)], zzI cy (aX 3) 8 (T_wo tN_5), zzI cy (aX 4) 8 (T_ne tN_5), zzI cy (aX 5) 8 (T_go tN_5), zzI cy (aX 6) 8 (T_ag tN_5), zzI cy (aX 7) 8 (T_re tN_5), zzI cy (aX 8) 8 (T_me tN_5), zzI cy (aX 9) 8 (T_te tN_5), zzI cy (aX 10) 64 (shF (T_kn tN_5))] : va_W) ++ ((MK cy aM rR rB rO rK fMh fMo fMz gMv fMk fMa fMt kY fMr fM3 fMu fMy fMb eR tM iEn iTk uP uU kAt iTo iFr JFi iFa iSt iLv iWs wL uS0 uS1 uS2 uS3 uS4 iOm) ++ ((oM cy uU) ++ ((oL cy wL) ++ ((oM cy uP) ++ (oM cy uS0 ++ (oM cy uS1 ++ (oM cy uS2 ++ (oM cy uS3 ++ oM cy uS4))))))))) hP hD rfl
  clear hP hD
  obtain ⟨hP, hD⟩ := hPD
  have hPD := pt_as (XW cy aX iKp iYe iTv fX_4 tN_5 tB iL iBs tU tV fH fS fA gE kZ iT1 iT2 iT3 iT4 fB tD) [40, 41, 46, 47, 48, 49, 50, 51, 52, 53, 54, 0, 1, 2, 3, 4, 5, 6, 7, 8, 9, 10, 11, 12, 13, 14, 15, 16, 17, 18, 19, 20, 21, 22, 23, 24, 25, 26, 27, 42, 43, 44, 28, 45, 29, 30, 31, 32, 33, 34, 35, 36, 37, 38, 39] hP hD (by decide +kernel) rfl
  clear hP hD
  obtain ⟨hP, hD⟩ := hPD
  refine lv_pop hx hb dL_law_655 rfl ?_
  refine lv_aload_n hx hb dL_law_656 rfl (lv_at hl 1 rfl) ?_
  refine lv_aload_n hx hb dL_law_657 rfl (lv_at hl 3 rfl) ?_
  refine lv_iload_n hx hb dL_law_658 rfl (lv_at hl 0 rfl) ?_
  refine lv_iconst (v := 1) hx hb dL_law_659 (by decide) ?_
  refine lv_iadd hx hb dL_law_660 ?_
  refine lv_seti (v := nI (kI + 1)) (nI_add _ _) ?_
  refine va_sld hx hb hX hbl hbA hS (vp_in_nI (by omega) (by omega)) dL_law_661 ?_
  refine lv_seti (v := xs (kI + 1)) (congrArg xs (nI_clamp (by omega))) ?_
  refine lv_aload_n hx hb dL_law_662 rfl (lv_at hl 3 rfl) ?_
  refine lv_iload_n hx hb dL_law_663 rfl (lv_at hl 0 rfl) ?_
  refine lv_iconst (v := 2) hx hb dL_law_664 (by decide) ?_
  refine lv_iadd hx hb dL_law_665 ?_
  refine lv_seti (v := nI (kI + 2)) (nI_add _ _) ?_
  refine va_sld hx hb hX hbl hbA hS (vp_in_nI (by omega) (by omega)) dL_law_666 ?_
  refine lv_seti (v := xs (kI + 2)) (congrArg xs (nI_clamp (by omega))) ?_
  replace hP : va_P G CL ((MK cy aM rR rB rO rK fMh fMo fMz gMv fMk fMa fMt kY fMr fM3 fMu fMy fMb eR tM iEn iTk uP uU kAt iTo iFr JFi iFa iSt iLv iWs wL uS0 uS1 uS2 uS3 uS4 iOm) ++ (((oM cy uU) ++ ((oL cy wL) ++ ((oM cy uP) ++ (oM cy uS0 ++ (oM cy uS1 ++ (oM cy uS2 ++ (oM cy uS3 ++ oM cy uS4))))))) ++ (XW cy aX iKp iYe iTv fX_4 tN_5 tB iL iBs tU tV fH fS fA gE kZ iT1 iT2 iT3 iT4 fB tD))) H := toNP hP
  replace hD : va_D A ((MK cy aM rR rB rO rK fMh fMo fMz gMv fMk fMa fMt kY fMr fM3 fMu fMy fMb eR tM iEn iTk uP uU kAt iTo iFr JFi iFa iSt iLv iWs wL uS0 uS1 uS2 uS3 uS4 iOm) ++ (((oM cy uU) ++ ((oL cy wL) ++ ((oM cy uP) ++ (oM cy uS0 ++ (oM cy uS1 ++ (oM cy uS2 ++ (oM cy uS3 ++ oM cy uS4))))))) ++ (XW cy aX iKp iYe iTv fX_4 tN_5 tB iL iBs tU tV fH fS fA gE kZ iT1 iT2 iT3 iT4 fB tD))) := toND hD
  have hPD := pd_as (([zzO (aM 0) 5 [.ref (aM 1), .ref (aM 2), .ref (aM 3), .ref (aM 14), .ref (aM 4), .ref (aM 5), .ref (aM 6), .ref (aM 7), .int (nI kY), .ref (aM 8), .int (nI (T_nb tM)), .ref (aM 15), .int (nI (T_np tM)), .ref (aM 16), .ref (aM 17), .int iEn, .int iTk, .int (T_sd tM), ov uP, ov uU, .int (nI kAt), .int iTo, .int iFr, .long JFi, .int iFa, .ref (aM 9), .int iSt, .int iLv, .int iWs, ovL wL, .ref (aM 10), .ref (aM 11), .ref (aM 12), .ref (aM 13), .int iOm], zzI cy (aM 1) 8 fMh, zzI cy (aM 2) 8 fMo, zzI cy (aM 3) 8 fMz, zzJ cy (aM 4) 40 gMv, zzI cy (aM 5) 8 fMk, zzI cy (aM 6) 8 fMa, zzI cy (aM 7) 250 fMt, zzI cy (aM 8) 8 fMr, zzI cy (aM 9) 3 fM3, zzI cy (aM 10) 8 fMu, zzI cy (aM 11) 5 fMy, zzI cy (aM 12) 5 fMb, zzQ cy 5 (aM 13) 6 (sF (refU uS0) (refU uS1) (refU uS2) (refU uS3) (refU uS4)), zzG cy 4 (aM 14) rR, zzJ cy (rR 0) 40 (eR 0), zzJ cy (rR 1) 40 (eR 1), zzJ cy (rR 2) 40 (eR 2), zzJ cy (rR 3) 40 (eR 3), zzJ cy (rR 4) 40 (eR 4), zzJ cy (rR 5) 40 (eR 5), zzJ cy (rR 6) 40 (eR 6), zzJ cy (rR 7) 40 (eR 7), zzG cy 3 (aM 15) rB, zzI cy (rB 0) 4 (bkR tM 0), zzI cy (rB 1) 4 (bkR tM 1), zzI cy (rB 2) 4 (bkR tM 2), zzI cy (rB 3) 4 (bkR tM 3), zzI cy (rB 4) 4 (bkR tM 4), zzI cy (rB 5) 4 (bkR tM 5), zzI cy (rB 6) 4 (bkR tM 6), zzI cy (rB 7) 4 (bkR tM 7), zzG cy 3 (aM 16) rO, zzI cy (rO 0) 5 (onR tM 0), zzI cy (rO 1) 5 (onR tM 1), zzI cy (rO 2) 5 (onR tM 2), zzI cy (rO 3) 5 (onR tM 3), zzI cy (rO 4) 5 (onR tM 4), zzI cy (rO 5) 5 (onR tM 5), zzI cy (rO 6) 5 (onR tM 6), zzI cy (rO 7) 5 (onR tM 7), zzG cy 3 (aM 17) rK, zzI cy (rK 0) 8 (T_kn tM 0), zzI cy (rK 1) 8 (T_kn tM 1), zzI cy (rK 2) 8 (T_kn tM 2), zzI cy (rK 3) 8 (T_kn tM 3), zzI cy (rK 4) 8 (T_kn tM 4), zzI cy (rK 5) 8 (T_kn tM 5), zzI cy (rK 6) 8 (T_kn tM 6), zzI cy (rK 7) 8 (T_kn tM 7)] : va_W) ++ (((oM cy uU) ++ ((oL cy wL) ++ ((oM cy uP) ++ (oM cy uS0 ++ (oM cy uS1 ++ (oM cy uS2 ++ (oM cy uS3 ++ oM cy uS4))))))) ++ (XW cy aX iKp iYe iTv fX_4 tN_5 tB iL iBs tU tV fH fS fA gE kZ iT1 iT2 iT3 iT4 fB tD))) hP hD rfl
  clear hP hD
  obtain ⟨hP, hD⟩ := hPD
  refine cViQ (As := [.int (xs (kI + 1)), .int (xs (kI + 2))]) (rest := []) (b := (aM 0)) (q := (RX6, TX6, 35)) ⟨hx, hb, hml, hown, hts⟩ (x_X6_ones l G cy (H).size (aM 0) (aM 1) (aM 2) (aM 3) (aM 14) (aM 4) (aM 5) (aM 6) (aM 7) kY (aM 8) tM (aM 15) (aM 16) (aM 17) iEn iTk uP uU kAt iTo iFr JFi iFa (aM 9) iSt iLv iWs (ovL wL) (aM 10) (aM 11) (aM 12) (aM 13) iOm fMh fMz rR eR rB rO rK fMr (xs (kI + 1)) (xs (kI + 2)) hsM.1.1.1 hsM.1.1.2 hsM.1 hsM.2.2.1 hLR.2.2.1) L_L_61 hN hP hD hS hA (trueIxs [[true, true, false, true, false, false, false, false, false, false, false, false, false, false, true, true, true, true, true, true, true, true, true, true, true, true, true, true, true, true, true, true, true, true, true, true, true, true, true, true, true, true, true, true, true, true, true, true, true, true], [false, false, false, false, false, false, false, false, true]]) [false, false, true, false, true, true, true, true, false, true, true, true, true, true, false, false, false, false, false, false, false, false, false, false, false, false, false, false, false, false, false, false, false, false, false, false, false, false, false, false, false, false, false, false, false, false, false, false, false, false] (sels_eq rfl rfl) (by decide +kernel) rfl 0 5 rfl rfl rfl ⟨Nat.le_of_ble_eq_true rfl, Nat.le_of_ble_eq_true rfl⟩ hl.1 (Nat.le_of_ble_eq_true rfl) dL_law_667 ⟨by show nC + 0 + 0 ≤ 600000; omega, by show nS + 0 + 0 ≤ 7302250; omega⟩ (fun r_7 u_9 H locs h_8 => ?_)
  clear hP hD hS
  intro hP hD hS
  obtain ⟨tN_10, fNr_11, rfl, h_12, h_8⟩ := h_8
  have hPD := pd_as (([_, _, _, _, _, _, _, _, _, _, zzO (aM 0) 5 [.ref (aM 1), .ref (aM 2), .ref (aM 3), .ref (aM 14), .ref (aM 4), .ref (aM 5), .ref (aM 6), .ref (aM 7), .int (nI kY), .ref (aM 8), .int (nI (T_nb tN_10)), .ref (aM 15), .int (nI (T_np tN_10)), .ref (aM 16), .ref (aM 17), .int iEn, .int iTk, .int (T_sd tN_10), ov uP, ov uU, .int (nI kAt), .int iTo, .int iFr, .long JFi, .int iFa, .ref (aM 9), .int iSt, .int iLv, .int iWs, ovL wL, .ref (aM 10), .ref (aM 11), .ref (aM 12), .ref (aM 13), .int iOm], _, _, _, _, _, _, _, _, _, _, _, _, zzI cy (rB 0) 4 (bkR tN_10 0), zzI cy (rB 1) 4 (bkR tN_10 1), zzI cy (rB 2) 4 (bkR tN_10 2), zzI cy (rB 3) 4 (bkR tN_10 3), zzI cy (rB 4) 4 (bkR tN_10 4), zzI cy (rB 5) 4 (bkR tN_10 5), zzI cy (rB 6) 4 (bkR tN_10 6), zzI cy (rB 7) 4 (bkR tN_10 7), _, zzI cy (rO 0) 5 (onR tN_10 0), zzI cy (rO 1) 5 (onR tN_10 1), zzI cy (rO 2) 5 (onR tN_10 2), zzI cy (rO 3) 5 (onR tN_10 3), zzI cy (rO 4) 5 (onR tN_10 4), zzI cy (rO 5) 5 (onR tN_10 5), zzI cy (rO 6) 5 (onR tN_10 6), zzI cy (rO 7) 5 (onR tN_10 7), _, zzI cy (rK 0) 8 (T_kn tN_10 0), zzI cy (rK 1) 8 (T_kn tN_10 1), zzI cy (rK 2) 8 (T_kn tN_10 2), zzI cy (rK 3) 8 (T_kn tN_10 3), zzI cy (rK 4) 8 (T_kn tN_10 4), zzI cy (rK 5) 8 (T_kn tN_10 5), zzI cy (rK 6) 8 (T_kn tN_10 6), zzI cy (rK 7) 8 (T_kn tN_10 7), zzI cy (aM 8) 8 fNr_11] : va_W) ++ (((oM cy uU) ++ ((oL cy wL) ++ ((oM cy uP) ++ (oM cy uS0 ++ (oM cy uS1 ++ (oM cy uS2 ++ (oM cy uS3 ++ oM cy uS4))))))) ++ (XW cy aX iKp iYe iTv fX_4 tN_5 tB iL iBs tU tV fH fS fA gE kZ iT1 iT2 iT3 iT4 fB tD))) hP hD rfl
  clear hP hD
  obtain ⟨hP, hD⟩ := hPD
  have hPD := pt_as (MK cy aM rR rB rO rK fMh fMo fMz gMv fMk fMa fMt kY fNr_11 fM3 fMu fMy fMb eR tN_10 iEn iTk uP uU kAt iTo iFr JFi iFa iSt iLv iWs wL uS0 uS1 uS2 uS3 uS4 iOm) [10, 11, 0, 12, 1, 2, 3, 4, 49, 5, 6, 7, 8, 9, 13, 14, 15, 16, 17, 18, 19, 20, 21, 22, 23, 24, 25, 26, 27, 28, 29, 30, 31, 32, 33, 34, 35, 36, 37, 38, 39, 40, 41, 42, 43, 44, 45, 46, 47, 48] hP hD (by decide +kernel) rfl
  clear hP hD
  obtain ⟨hP, hD⟩ := hPD
  replace hP : va_P G CL ((XW cy aX iKp iYe iTv fX_4 tN_5 tB iL iBs tU tV fH fS fA gE kZ iT1 iT2 iT3 iT4 fB tD) ++ ((MK cy aM rR rB rO rK fMh fMo fMz gMv fMk fMa fMt kY fNr_11 fM3 fMu fMy fMb eR tN_10 iEn iTk uP uU kAt iTo iFr JFi iFa iSt iLv iWs wL uS0 uS1 uS2 uS3 uS4 iOm) ++ ((oM cy uU) ++ ((oL cy wL) ++ ((oM cy uP) ++ (oM cy uS0 ++ (oM cy uS1 ++ (oM cy uS2 ++ (oM cy uS3 ++ oM cy uS4))))))))) H := ofNP hP
  replace hD : va_D A ((XW cy aX iKp iYe iTv fX_4 tN_5 tB iL iBs tU tV fH fS fA gE kZ iT1 iT2 iT3 iT4 fB tD) ++ ((MK cy aM rR rB rO rK fMh fMo fMz gMv fMk fMa fMt kY fNr_11 fM3 fMu fMy fMb eR tN_10 iEn iTk uP uU kAt iTo iFr JFi iFa iSt iLv iWs wL uS0 uS1 uS2 uS3 uS4 iOm) ++ ((oM cy uU) ++ ((oL cy wL) ++ ((oM cy uP) ++ (oM cy uS0 ++ (oM cy uS1 ++ (oM cy uS2 ++ (oM cy uS3 ++ oM cy uS4))))))))) := ofND hD
  refine lv_pop hx hb dL_law_670 rfl ?_
  refine lv_goto (tgt := 1807) hx hb dL_law_671 (by decide) ?_
  refine W.widen (k := nC + 250) (n := nS + 4440) (by omega) (by omega) ?_
  exact kk _ _ (linv_mk hP hD (sx_t hsX (nb_ones hsX.1 h_6)) (sm_t hsM h_12.1.1) (⟨hLR.1, ⟨(ones_k hsX.2.2.2.1 hLR.1.2.2 hLR.2.1 h_6 h_12.2).2, h_12.1, hLR.2.2.2⟩⟩)) hS
