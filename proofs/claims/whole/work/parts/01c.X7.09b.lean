theorem dX7_quartic_236 : decode cX7_quartic 236 = .ok (.lload 9, 2) := by decide +kernel
theorem dX7_quartic_238 : decode cX7_quartic 238 = .ok (.lmul, 1) := by decide +kernel
theorem dX7_quartic_239 : decode cX7_quartic 239 = .ok (.lload 9, 2) := by decide +kernel
theorem dX7_quartic_241 : decode cX7_quartic 241 = .ok (.lmul, 1) := by decide +kernel
theorem dX7_quartic_242 : decode cX7_quartic 242 = .ok (.lsub, 1) := by decide +kernel
theorem dX7_quartic_243 : decode cX7_quartic 243 = .ok (.lstore 11, 2) := by decide +kernel
theorem dX7_quartic_245 : decode cX7_quartic 245 = .ok (.lload 11, 2) := by decide +kernel
theorem dX7_quartic_247 : decode cX7_quartic 247 = .ok (.ldc2_w 239, 3) := by decide +kernel
theorem dX7_quartic_250 : decode cX7_quartic 250 = .ok (.lload_n 3, 1) := by decide +kernel
theorem dX7_quartic_251 : decode cX7_quartic 251 = .ok (.lmul, 1) := by decide +kernel
theorem dX7_quartic_252 : decode cX7_quartic 252 = .ok (.lload_n 3, 1) := by decide +kernel
theorem dX7_quartic_253 : decode cX7_quartic 253 = .ok (.lmul, 1) := by decide +kernel
theorem dX7_quartic_254 : decode cX7_quartic 254 = .ok (.lload_n 3, 1) := by decide +kernel
theorem dX7_quartic_255 : decode cX7_quartic 255 = .ok (.lmul, 1) := by decide +kernel
theorem dX7_quartic_256 : decode cX7_quartic 256 = .ok (.lload 5, 2) := by decide +kernel
theorem dX7_quartic_258 : decode cX7_quartic 258 = .ok (.lmul, 1) := by decide +kernel
theorem dX7_quartic_259 : decode cX7_quartic 259 = .ok (.lload 7, 2) := by decide +kernel
theorem dX7_quartic_261 : decode cX7_quartic 261 = .ok (.lmul, 1) := by decide +kernel
theorem dX7_quartic_262 : decode cX7_quartic 262 = .ok (.lload 9, 2) := by decide +kernel
theorem dX7_quartic_264 : decode cX7_quartic 264 = .ok (.lmul, 1) := by decide +kernel
theorem dX7_quartic_265 : decode cX7_quartic 265 = .ok (.ladd, 1) := by decide +kernel
theorem dX7_quartic_266 : decode cX7_quartic 266 = .ok (.ldc2_w 241, 3) := by decide +kernel
theorem dX7_quartic_269 : decode cX7_quartic 269 = .ok (.lload_n 3, 1) := by decide +kernel
theorem dX7_quartic_270 : decode cX7_quartic 270 = .ok (.lmul, 1) := by decide +kernel
theorem dX7_quartic_271 : decode cX7_quartic 271 = .ok (.lload_n 3, 1) := by decide +kernel
theorem dX7_quartic_272 : decode cX7_quartic 272 = .ok (.lmul, 1) := by decide +kernel
theorem dX7_quartic_273 : decode cX7_quartic 273 = .ok (.lload_n 3, 1) := by decide +kernel
theorem dX7_quartic_274 : decode cX7_quartic 274 = .ok (.lmul, 1) := by decide +kernel
theorem dX7_quartic_275 : decode cX7_quartic 275 = .ok (.lload 7, 2) := by decide +kernel
theorem dX7_quartic_277 : decode cX7_quartic 277 = .ok (.lmul, 1) := by decide +kernel
theorem dX7_quartic_278 : decode cX7_quartic 278 = .ok (.lload 7, 2) := by decide +kernel
theorem dX7_quartic_280 : decode cX7_quartic 280 = .ok (.lmul, 1) := by decide +kernel
theorem dX7_quartic_281 : decode cX7_quartic 281 = .ok (.lload 7, 2) := by decide +kernel
theorem dX7_quartic_283 : decode cX7_quartic 283 = .ok (.lmul, 1) := by decide +kernel
theorem dX7_quartic_284 : decode cX7_quartic 284 = .ok (.lsub, 1) := by decide +kernel
theorem dX7_quartic_285 : decode cX7_quartic 285 = .ok (.ldc2_w 241, 3) := by decide +kernel
theorem dX7_quartic_288 : decode cX7_quartic 288 = .ok (.lload_n 3, 1) := by decide +kernel
theorem dX7_quartic_289 : decode cX7_quartic 289 = .ok (.lmul, 1) := by decide +kernel
theorem dX7_quartic_290 : decode cX7_quartic 290 = .ok (.lload_n 3, 1) := by decide +kernel
theorem dX7_quartic_291 : decode cX7_quartic 291 = .ok (.lmul, 1) := by decide +kernel
theorem dX7_quartic_292 : decode cX7_quartic 292 = .ok (.lload 5, 2) := by decide +kernel
theorem dX7_quartic_294 : decode cX7_quartic 294 = .ok (.lmul, 1) := by decide +kernel
theorem dX7_quartic_295 : decode cX7_quartic 295 = .ok (.lload 5, 2) := by decide +kernel
theorem dX7_quartic_297 : decode cX7_quartic 297 = .ok (.lmul, 1) := by decide +kernel
theorem dX7_quartic_298 : decode cX7_quartic 298 = .ok (.lload 5, 2) := by decide +kernel
theorem dX7_quartic_300 : decode cX7_quartic 300 = .ok (.lmul, 1) := by decide +kernel
theorem dX7_quartic_301 : decode cX7_quartic 301 = .ok (.lload 9, 2) := by decide +kernel
theorem dX7_quartic_303 : decode cX7_quartic 303 = .ok (.lmul, 1) := by decide +kernel
theorem dX7_quartic_304 : decode cX7_quartic 304 = .ok (.lsub, 1) := by decide +kernel
theorem dX7_quartic_305 : decode cX7_quartic 305 = .ok (.lload_n 3, 1) := by decide +kernel
theorem dX7_quartic_306 : decode cX7_quartic 306 = .ok (.lload_n 3, 1) := by decide +kernel
theorem dX7_quartic_307 : decode cX7_quartic 307 = .ok (.lmul, 1) := by decide +kernel
theorem dX7_quartic_308 : decode cX7_quartic 308 = .ok (.lload 5, 2) := by decide +kernel
theorem dX7_quartic_310 : decode cX7_quartic 310 = .ok (.lmul, 1) := by decide +kernel
theorem dX7_quartic_311 : decode cX7_quartic 311 = .ok (.lload 5, 2) := by decide +kernel
theorem dX7_quartic_313 : decode cX7_quartic 313 = .ok (.lmul, 1) := by decide +kernel
theorem dX7_quartic_314 : decode cX7_quartic 314 = .ok (.lload 7, 2) := by decide +kernel
theorem dX7_quartic_316 : decode cX7_quartic 316 = .ok (.lmul, 1) := by decide +kernel
theorem dX7_quartic_317 : decode cX7_quartic 317 = .ok (.lload 7, 2) := by decide +kernel
theorem dX7_quartic_319 : decode cX7_quartic 319 = .ok (.lmul, 1) := by decide +kernel
theorem dX7_quartic_320 : decode cX7_quartic 320 = .ok (.ladd, 1) := by decide +kernel
theorem dX7_quartic_321 : decode cX7_quartic 321 = .ok (.lstore 11, 2) := by decide +kernel
theorem dX7_quartic_323 : decode cX7_quartic 323 = .ok (.lload_n 1, 1) := by decide +kernel
theorem dX7_quartic_324 : decode cX7_quartic 324 = .ok (.lload 5, 2) := by decide +kernel
theorem dX7_quartic_326 : decode cX7_quartic 326 = .ok (.lmul, 1) := by decide +kernel
theorem dX7_quartic_327 : decode cX7_quartic 327 = .ok (.lstore 13, 2) := by decide +kernel
theorem dX7_quartic_329 : decode cX7_quartic 329 = .ok (.lload_n 1, 1) := by decide +kernel
theorem dX7_quartic_330 : decode cX7_quartic 330 = .ok (.lload_n 1, 1) := by decide +kernel
theorem dX7_quartic_331 : decode cX7_quartic 331 = .ok (.lmul, 1) := by decide +kernel
theorem dX7_quartic_332 : decode cX7_quartic 332 = .ok (.lload 7, 2) := by decide +kernel
theorem dX7_quartic_334 : decode cX7_quartic 334 = .ok (.lmul, 1) := by decide +kernel
theorem dX7_quartic_335 : decode cX7_quartic 335 = .ok (.lstore 15, 2) := by decide +kernel
theorem dX7_quartic_337 : decode cX7_quartic 337 = .ok (.lload_n 1, 1) := by decide +kernel
theorem dX7_quartic_338 : decode cX7_quartic 338 = .ok (.lload_n 1, 1) := by decide +kernel
theorem dX7_quartic_339 : decode cX7_quartic 339 = .ok (.lmul, 1) := by decide +kernel
theorem dX7_quartic_340 : decode cX7_quartic 340 = .ok (.lload_n 1, 1) := by decide +kernel
theorem dX7_quartic_341 : decode cX7_quartic 341 = .ok (.lmul, 1) := by decide +kernel
theorem dX7_quartic_342 : decode cX7_quartic 342 = .ok (.lload 9, 2) := by decide +kernel
theorem dX7_quartic_344 : decode cX7_quartic 344 = .ok (.lmul, 1) := by decide +kernel
theorem dX7_quartic_345 : decode cX7_quartic 345 = .ok (.lstore 17, 2) := by decide +kernel
theorem dX7_quartic_347 : decode cX7_quartic 347 = .ok (.aload_n 0, 1) := by decide +kernel
theorem dX7_quartic_348 : decode cX7_quartic 348 = .ok (.lload 13, 2) := by decide +kernel
theorem dX7_quartic_350 : decode cX7_quartic 350 = .ok (.lneg, 1) := by decide +kernel
theorem dX7_quartic_351 : decode cX7_quartic 351 = .ok (.putfield 209, 3) := by decide +kernel
theorem dX7_quartic_354 : decode cX7_quartic 354 = .ok (.aload_n 0, 1) := by decide +kernel
theorem dX7_quartic_355 : decode cX7_quartic 355 = .ok (.lload_n 3, 1) := by decide +kernel
theorem dX7_quartic_356 : decode cX7_quartic 356 = .ok (.lload 15, 2) := by decide +kernel
theorem dX7_quartic_358 : decode cX7_quartic 358 = .ok (.lmul, 1) := by decide +kernel
theorem dX7_quartic_359 : decode cX7_quartic 359 = .ok (.ldc2_w 241, 3) := by decide +kernel
theorem dX7_quartic_362 : decode cX7_quartic 362 = .ok (.lload 17, 2) := by decide +kernel
theorem dX7_quartic_364 : decode cX7_quartic 364 = .ok (.lmul, 1) := by decide +kernel
theorem dX7_quartic_365 : decode cX7_quartic 365 = .ok (.lsub, 1) := by decide +kernel
theorem dX7_quartic_366 : decode cX7_quartic 366 = .ok (.putfield 213, 3) := by decide +kernel
theorem dX7_quartic_369 : decode cX7_quartic 369 = .ok (.aload_n 0, 1) := by decide +kernel
theorem dX7_quartic_370 : decode cX7_quartic 370 = .ok (.ldc2_w 241, 3) := by decide +kernel
theorem dX7_quartic_373 : decode cX7_quartic 373 = .ok (.lload 13, 2) := by decide +kernel
theorem dX7_quartic_375 : decode cX7_quartic 375 = .ok (.lmul, 1) := by decide +kernel
theorem dX7_quartic_376 : decode cX7_quartic 376 = .ok (.lload 17, 2) := by decide +kernel
theorem dX7_quartic_378 : decode cX7_quartic 378 = .ok (.lmul, 1) := by decide +kernel
theorem dX7_quartic_379 : decode cX7_quartic 379 = .ok (.lload_n 3, 1) := by decide +kernel
theorem dX7_quartic_380 : decode cX7_quartic 380 = .ok (.lload_n 3, 1) := by decide +kernel
theorem dX7_quartic_381 : decode cX7_quartic 381 = .ok (.lmul, 1) := by decide +kernel
theorem dX7_quartic_382 : decode cX7_quartic 382 = .ok (.lload 17, 2) := by decide +kernel
theorem dX7_quartic_384 : decode cX7_quartic 384 = .ok (.lmul, 1) := by decide +kernel
theorem dX7_quartic_385 : decode cX7_quartic 385 = .ok (.lsub, 1) := by decide +kernel
theorem dX7_quartic_386 : decode cX7_quartic 386 = .ok (.lload 15, 2) := by decide +kernel
theorem dX7_quartic_388 : decode cX7_quartic 388 = .ok (.lload 15, 2) := by decide +kernel
theorem dX7_quartic_390 : decode cX7_quartic 390 = .ok (.lmul, 1) := by decide +kernel
theorem dX7_quartic_391 : decode cX7_quartic 391 = .ok (.lsub, 1) := by decide +kernel
theorem dX7_quartic_392 : decode cX7_quartic 392 = .ok (.putfield 216, 3) := by decide +kernel
theorem dX7_quartic_395 : decode cX7_quartic 395 = .ok (.aload_n 0, 1) := by decide +kernel
theorem dX7_quartic_396 : decode cX7_quartic 396 = .ok (.invokevirtual 259, 3) := by decide +kernel
theorem dX7_quartic_399 : decode cX7_quartic 399 = .ok (.aload_n 0, 1) := by decide +kernel
theorem dX7_quartic_400 : decode cX7_quartic 400 = .ok (.getfield 222, 3) := by decide +kernel
theorem dX7_quartic_403 : decode cX7_quartic 403 = .ok (.ifCond .ne 19, 3) := by decide +kernel
theorem dX7_quartic_406 : decode cX7_quartic 406 = .ok (.lload 11, 2) := by decide +kernel
theorem dX7_quartic_408 : decode cX7_quartic 408 = .ok (.invokestatic 205, 3) := by decide +kernel
theorem dX7_quartic_411 : decode cX7_quartic 411 = .ok (.ifCond .eq 8, 3) := by decide +kernel
theorem dX7_quartic_414 : decode cX7_quartic 414 = .ok (.bipush 8, 2) := by decide +kernel
theorem dX7_quartic_416 : decode cX7_quartic 416 = .ok (.goto 5, 3) := by decide +kernel
theorem dX7_quartic_419 : decode cX7_quartic 419 = .ok (.bipush 9, 2) := by decide +kernel
theorem dX7_quartic_421 : decode cX7_quartic 421 = .ok (.ireturn, 1) := by decide +kernel
theorem dX7_quartic_422 : decode cX7_quartic 422 = .ok (.aload_n 0, 1) := by decide +kernel
theorem dX7_quartic_423 : decode cX7_quartic 423 = .ok (.getfield 222, 3) := by decide +kernel
theorem dX7_quartic_426 : decode cX7_quartic 426 = .ok (.iconst 1, 1) := by decide +kernel
theorem dX7_quartic_427 : decode cX7_quartic 427 = .ok (.if_icmp .le 5, 3) := by decide +kernel
theorem dX7_quartic_430 : decode cX7_quartic 430 = .ok (.iconst 5, 1) := by decide +kernel
theorem dX7_quartic_431 : decode cX7_quartic 431 = .ok (.ireturn, 1) := by decide +kernel
theorem dX7_quartic_432 : decode cX7_quartic 432 = .ok (.aload_n 0, 1) := by decide +kernel
theorem dX7_quartic_433 : decode cX7_quartic 433 = .ok (.getfield 225, 3) := by decide +kernel
theorem dX7_quartic_436 : decode cX7_quartic 436 = .ok (.lstore 19, 2) := by decide +kernel
theorem dX7_quartic_438 : decode cX7_quartic 438 = .ok (.lload_n 3, 1) := by decide +kernel
theorem dX7_quartic_439 : decode cX7_quartic 439 = .ok (.lload_n 3, 1) := by decide +kernel
theorem dX7_quartic_440 : decode cX7_quartic 440 = .ok (.lmul, 1) := by decide +kernel
theorem dX7_quartic_441 : decode cX7_quartic 441 = .ok (.ldc2_w 241, 3) := by decide +kernel
theorem dX7_quartic_444 : decode cX7_quartic 444 = .ok (.lload 13, 2) := by decide +kernel
theorem dX7_quartic_446 : decode cX7_quartic 446 = .ok (.lload 19, 2) := by decide +kernel
theorem dX7_quartic_448 : decode cX7_quartic 448 = .ok (.lsub, 1) := by decide +kernel
theorem dX7_quartic_449 : decode cX7_quartic 449 = .ok (.lmul, 1) := by decide +kernel
theorem dX7_quartic_450 : decode cX7_quartic 450 = .ok (.lsub, 1) := by decide +kernel
theorem dX7_quartic_451 : decode cX7_quartic 451 = .ok (.lload 11, 2) := by decide +kernel
theorem dX7_quartic_453 : decode cX7_quartic 453 = .ok (.invokestatic 262, 3) := by decide +kernel
theorem dX7_quartic_456 : decode cX7_quartic 456 = .ok (.ifCond .eq 28, 3) := by decide +kernel
theorem dX7_quartic_459 : decode cX7_quartic 459 = .ok (.lload 19, 2) := by decide +kernel
theorem dX7_quartic_461 : decode cX7_quartic 461 = .ok (.lload 19, 2) := by decide +kernel
theorem dX7_quartic_463 : decode cX7_quartic 463 = .ok (.lmul, 1) := by decide +kernel
theorem dX7_quartic_464 : decode cX7_quartic 464 = .ok (.ldc2_w 241, 3) := by decide +kernel
theorem dX7_quartic_467 : decode cX7_quartic 467 = .ok (.lload 17, 2) := by decide +kernel
theorem dX7_quartic_469 : decode cX7_quartic 469 = .ok (.lmul, 1) := by decide +kernel
theorem dX7_quartic_470 : decode cX7_quartic 470 = .ok (.lsub, 1) := by decide +kernel
theorem dX7_quartic_471 : decode cX7_quartic 471 = .ok (.lload 11, 2) := by decide +kernel
theorem dX7_quartic_473 : decode cX7_quartic 473 = .ok (.invokestatic 262, 3) := by decide +kernel
theorem dX7_quartic_476 : decode cX7_quartic 476 = .ok (.ifCond .eq 8, 3) := by decide +kernel
theorem dX7_quartic_479 : decode cX7_quartic 479 = .ok (.bipush 6, 2) := by decide +kernel
theorem dX7_quartic_481 : decode cX7_quartic 481 = .ok (.goto 5, 3) := by decide +kernel
theorem dX7_quartic_484 : decode cX7_quartic 484 = .ok (.bipush 7, 2) := by decide +kernel
theorem dX7_quartic_486 : decode cX7_quartic 486 = .ok (.ireturn, 1) := by decide +kernel
