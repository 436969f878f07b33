/-! what each instruction is (printed by program) -/
theorem d_Z_law_252 : decode code 252 = .ok (.aload_n 3, 1) := by decide +kernel
theorem d_Z_law_253 : decode code 253 = .ok (.invokestatic 85, 3) := by decide +kernel
theorem d_Z_law_256 : decode code 256 = .ok (.istore 5, 2) := by decide +kernel
theorem d_Z_law_258 : decode code 258 = .ok (.aload_n 2, 1) := by decide +kernel
theorem d_Z_law_259 : decode code 259 = .ok (.aload_n 0, 1) := by decide +kernel
theorem d_Z_law_260 : decode code 260 = .ok (.iload 4, 2) := by decide +kernel
theorem d_Z_law_262 : decode code 262 = .ok (.iconst 1, 1) := by decide +kernel
theorem d_Z_law_263 : decode code 263 = .ok (.iadd, 1) := by decide +kernel
theorem d_Z_law_264 : decode code 264 = .ok (.iaload, 1) := by decide +kernel
theorem d_Z_law_265 : decode code 265 = .ok (.aload_n 0, 1) := by decide +kernel
theorem d_Z_law_266 : decode code 266 = .ok (.iload 4, 2) := by decide +kernel
theorem d_Z_law_268 : decode code 268 = .ok (.iconst 2, 1) := by decide +kernel
theorem d_Z_law_269 : decode code 269 = .ok (.iadd, 1) := by decide +kernel
theorem d_Z_law_270 : decode code 270 = .ok (.iaload, 1) := by decide +kernel
theorem d_Z_law_271 : decode code 271 = .ok (.invokevirtual 87, 3) := by decide +kernel
theorem d_Z_law_274 : decode code 274 = .ok (.istore 6, 2) := by decide +kernel
theorem d_Z_law_276 : decode code 276 = .ok (.aload_n 2, 1) := by decide +kernel
theorem d_Z_law_277 : decode code 277 = .ok (.invokevirtual 82, 3) := by decide +kernel
theorem d_Z_law_280 : decode code 280 = .ok (.iload 5, 2) := by decide +kernel
theorem d_Z_law_282 : decode code 282 = .ok (.if_icmp .eq 5, 3) := by decide +kernel
theorem d_Z_law_285 : decode code 285 = .ok (.iconst 0, 1) := by decide +kernel
theorem d_Z_law_286 : decode code 286 = .ok (.ireturn, 1) := by decide +kernel
theorem d_Z_law_287 : decode code 287 = .ok (.iload 5, 2) := by decide +kernel
theorem d_Z_law_289 : decode code 289 = .ok (.ifCond .ne 15, 3) := by decide +kernel
theorem d_Z_law_292 : decode code 292 = .ok (.aload_n 3, 1) := by decide +kernel
theorem d_Z_law_293 : decode code 293 = .ok (.iconst 0, 1) := by decide +kernel
theorem d_Z_law_294 : decode code 294 = .ok (.laload, 1) := by decide +kernel
theorem d_Z_law_295 : decode code 295 = .ok (.iload 6, 2) := by decide +kernel
theorem d_Z_law_297 : decode code 297 = .ok (.i2l, 1) := by decide +kernel
theorem d_Z_law_298 : decode code 298 = .ok (.lcmp, 1) := by decide +kernel
theorem d_Z_law_299 : decode code 299 = .ok (.ifCond .eq 5, 3) := by decide +kernel
theorem d_Z_law_302 : decode code 302 = .ok (.iconst 0, 1) := by decide +kernel
theorem d_Z_law_303 : decode code 303 = .ok (.ireturn, 1) := by decide +kernel
theorem d_Z_law_304 : decode code 304 = .ok (.goto 796, 3) := by decide +kernel
theorem d_Z_law_307 : decode code 307 = .ok (.aload_n 1, 1) := by decide +kernel
theorem d_Z_law_308 : decode code 308 = .ok (.aload_n 0, 1) := by decide +kernel
theorem d_Z_law_309 : decode code 309 = .ok (.iload 4, 2) := by decide +kernel
theorem d_Z_law_311 : decode code 311 = .ok (.iconst 1, 1) := by decide +kernel
theorem d_Z_law_312 : decode code 312 = .ok (.iadd, 1) := by decide +kernel
theorem d_Z_law_313 : decode code 313 = .ok (.iaload, 1) := by decide +kernel
theorem d_Z_law_314 : decode code 314 = .ok (.aload_n 0, 1) := by decide +kernel
theorem d_Z_law_315 : decode code 315 = .ok (.iload 4, 2) := by decide +kernel
theorem d_Z_law_317 : decode code 317 = .ok (.iconst 2, 1) := by decide +kernel
theorem d_Z_law_318 : decode code 318 = .ok (.iadd, 1) := by decide +kernel
theorem d_Z_law_319 : decode code 319 = .ok (.iaload, 1) := by decide +kernel
theorem d_Z_law_320 : decode code 320 = .ok (.aload_n 3, 1) := by decide +kernel
theorem d_Z_law_321 : decode code 321 = .ok (.invokestatic 88, 3) := by decide +kernel
theorem d_Z_law_324 : decode code 324 = .ok (.istore 5, 2) := by decide +kernel
theorem d_Z_law_326 : decode code 326 = .ok (.aload_n 2, 1) := by decide +kernel
theorem d_Z_law_327 : decode code 327 = .ok (.aload_n 0, 1) := by decide +kernel
theorem d_Z_law_328 : decode code 328 = .ok (.iload 4, 2) := by decide +kernel
theorem d_Z_law_330 : decode code 330 = .ok (.iconst 1, 1) := by decide +kernel
theorem d_Z_law_331 : decode code 331 = .ok (.iadd, 1) := by decide +kernel
theorem d_Z_law_332 : decode code 332 = .ok (.iaload, 1) := by decide +kernel
theorem d_Z_law_333 : decode code 333 = .ok (.aload_n 0, 1) := by decide +kernel
theorem d_Z_law_334 : decode code 334 = .ok (.iload 4, 2) := by decide +kernel
theorem d_Z_law_336 : decode code 336 = .ok (.iconst 2, 1) := by decide +kernel
theorem d_Z_law_337 : decode code 337 = .ok (.iadd, 1) := by decide +kernel
theorem d_Z_law_338 : decode code 338 = .ok (.iaload, 1) := by decide +kernel
theorem d_Z_law_339 : decode code 339 = .ok (.invokevirtual 90, 3) := by decide +kernel
theorem d_Z_law_342 : decode code 342 = .ok (.istore 6, 2) := by decide +kernel
theorem d_Z_law_344 : decode code 344 = .ok (.aload_n 2, 1) := by decide +kernel
theorem d_Z_law_345 : decode code 345 = .ok (.invokevirtual 82, 3) := by decide +kernel
theorem d_Z_law_348 : decode code 348 = .ok (.iload 5, 2) := by decide +kernel
theorem d_Z_law_350 : decode code 350 = .ok (.if_icmp .eq 5, 3) := by decide +kernel
theorem d_Z_law_353 : decode code 353 = .ok (.iconst 0, 1) := by decide +kernel
theorem d_Z_law_354 : decode code 354 = .ok (.ireturn, 1) := by decide +kernel
theorem d_Z_law_355 : decode code 355 = .ok (.iload 5, 2) := by decide +kernel
theorem d_Z_law_357 : decode code 357 = .ok (.ifCond .ne 15, 3) := by decide +kernel
theorem d_Z_law_360 : decode code 360 = .ok (.aload_n 3, 1) := by decide +kernel
theorem d_Z_law_361 : decode code 361 = .ok (.iconst 0, 1) := by decide +kernel
theorem d_Z_law_362 : decode code 362 = .ok (.laload, 1) := by decide +kernel
theorem d_Z_law_363 : decode code 363 = .ok (.iload 6, 2) := by decide +kernel
theorem d_Z_law_365 : decode code 365 = .ok (.i2l, 1) := by decide +kernel
theorem d_Z_law_366 : decode code 366 = .ok (.lcmp, 1) := by decide +kernel
theorem d_Z_law_367 : decode code 367 = .ok (.ifCond .eq 5, 3) := by decide +kernel
theorem d_Z_law_370 : decode code 370 = .ok (.iconst 0, 1) := by decide +kernel
theorem d_Z_law_371 : decode code 371 = .ok (.ireturn, 1) := by decide +kernel
theorem d_Z_law_372 : decode code 372 = .ok (.goto 728, 3) := by decide +kernel
theorem d_Z_law_375 : decode code 375 = .ok (.aload_n 1, 1) := by decide +kernel
theorem d_Z_law_376 : decode code 376 = .ok (.aload_n 0, 1) := by decide +kernel
theorem d_Z_law_377 : decode code 377 = .ok (.iload 4, 2) := by decide +kernel
theorem d_Z_law_379 : decode code 379 = .ok (.iconst 1, 1) := by decide +kernel
theorem d_Z_law_380 : decode code 380 = .ok (.iadd, 1) := by decide +kernel
theorem d_Z_law_381 : decode code 381 = .ok (.iaload, 1) := by decide +kernel
theorem d_Z_law_382 : decode code 382 = .ok (.aload_n 0, 1) := by decide +kernel
theorem d_Z_law_383 : decode code 383 = .ok (.iload 4, 2) := by decide +kernel
theorem d_Z_law_385 : decode code 385 = .ok (.iconst 2, 1) := by decide +kernel
theorem d_Z_law_386 : decode code 386 = .ok (.iadd, 1) := by decide +kernel
theorem d_Z_law_387 : decode code 387 = .ok (.iaload, 1) := by decide +kernel
theorem d_Z_law_388 : decode code 388 = .ok (.aload_n 3, 1) := by decide +kernel
theorem d_Z_law_389 : decode code 389 = .ok (.invokestatic 91, 3) := by decide +kernel
theorem d_Z_law_392 : decode code 392 = .ok (.istore 5, 2) := by decide +kernel
theorem d_Z_law_394 : decode code 394 = .ok (.aload_n 2, 1) := by decide +kernel
theorem d_Z_law_395 : decode code 395 = .ok (.aload_n 0, 1) := by decide +kernel
theorem d_Z_law_396 : decode code 396 = .ok (.iload 4, 2) := by decide +kernel
theorem d_Z_law_398 : decode code 398 = .ok (.iconst 1, 1) := by decide +kernel
theorem d_Z_law_399 : decode code 399 = .ok (.iadd, 1) := by decide +kernel
theorem d_Z_law_400 : decode code 400 = .ok (.iaload, 1) := by decide +kernel
theorem d_Z_law_401 : decode code 401 = .ok (.aload_n 0, 1) := by decide +kernel
theorem d_Z_law_402 : decode code 402 = .ok (.iload 4, 2) := by decide +kernel
theorem d_Z_law_404 : decode code 404 = .ok (.iconst 2, 1) := by decide +kernel
theorem d_Z_law_405 : decode code 405 = .ok (.iadd, 1) := by decide +kernel
theorem d_Z_law_406 : decode code 406 = .ok (.iaload, 1) := by decide +kernel
theorem d_Z_law_407 : decode code 407 = .ok (.invokevirtual 93, 3) := by decide +kernel
theorem d_Z_law_410 : decode code 410 = .ok (.istore 6, 2) := by decide +kernel
theorem d_Z_law_412 : decode code 412 = .ok (.aload_n 2, 1) := by decide +kernel
theorem d_Z_law_413 : decode code 413 = .ok (.invokevirtual 82, 3) := by decide +kernel
theorem d_Z_law_416 : decode code 416 = .ok (.iload 5, 2) := by decide +kernel
theorem d_Z_law_418 : decode code 418 = .ok (.if_icmp .eq 5, 3) := by decide +kernel
theorem d_Z_law_421 : decode code 421 = .ok (.iconst 0, 1) := by decide +kernel
theorem d_Z_law_422 : decode code 422 = .ok (.ireturn, 1) := by decide +kernel
theorem d_Z_law_423 : decode code 423 = .ok (.iload 5, 2) := by decide +kernel
theorem d_Z_law_425 : decode code 425 = .ok (.ifCond .ne 15, 3) := by decide +kernel
theorem d_Z_law_428 : decode code 428 = .ok (.aload_n 3, 1) := by decide +kernel
theorem d_Z_law_429 : decode code 429 = .ok (.iconst 0, 1) := by decide +kernel
theorem d_Z_law_430 : decode code 430 = .ok (.laload, 1) := by decide +kernel
theorem d_Z_law_431 : decode code 431 = .ok (.iload 6, 2) := by decide +kernel
theorem d_Z_law_433 : decode code 433 = .ok (.i2l, 1) := by decide +kernel
theorem d_Z_law_434 : decode code 434 = .ok (.lcmp, 1) := by decide +kernel
