/-! the law's instructions, 2 -/
theorem d_W_246 : decode code 246 = .ok (.iaload, 1) := by decide +kernel
theorem d_W_247 : decode code 247 = .ok (.ifCond .eq 7, 3) := by decide +kernel
theorem d_W_250 : decode code 250 = .ok (.iconst 1, 1) := by decide +kernel
theorem d_W_251 : decode code 251 = .ok (.goto 4, 3) := by decide +kernel
theorem d_W_254 : decode code 254 = .ok (.iconst 0, 1) := by decide +kernel
theorem d_W_255 : decode code 255 = .ok (.aload_n 0, 1) := by decide +kernel
theorem d_W_256 : decode code 256 = .ok (.iload 4, 2) := by decide +kernel
theorem d_W_258 : decode code 258 = .ok (.iconst 3, 1) := by decide +kernel
theorem d_W_259 : decode code 259 = .ok (.iadd, 1) := by decide +kernel
theorem d_W_260 : decode code 260 = .ok (.iaload, 1) := by decide +kernel
theorem d_W_261 : decode code 261 = .ok (.aload_n 0, 1) := by decide +kernel
theorem d_W_262 : decode code 262 = .ok (.iload 4, 2) := by decide +kernel
theorem d_W_264 : decode code 264 = .ok (.iconst 4, 1) := by decide +kernel
theorem d_W_265 : decode code 265 = .ok (.iadd, 1) := by decide +kernel
theorem d_W_266 : decode code 266 = .ok (.iaload, 1) := by decide +kernel
theorem d_W_267 : decode code 267 = .ok (.invokevirtual 38, 3) := by decide +kernel
theorem d_W_270 : decode code 270 = .ok (.if_icmp .eq 476, 3) := by decide +kernel
theorem d_W_273 : decode code 273 = .ok (.iconst 0, 1) := by decide +kernel
theorem d_W_274 : decode code 274 = .ok (.ireturn, 1) := by decide +kernel
theorem d_W_275 : decode code 275 = .ok (.aload_n 1, 1) := by decide +kernel
theorem d_W_276 : decode code 276 = .ok (.aload_n 0, 1) := by decide +kernel
theorem d_W_277 : decode code 277 = .ok (.iload 4, 2) := by decide +kernel
theorem d_W_279 : decode code 279 = .ok (.iconst 1, 1) := by decide +kernel
theorem d_W_280 : decode code 280 = .ok (.iadd, 1) := by decide +kernel
theorem d_W_281 : decode code 281 = .ok (.iaload, 1) := by decide +kernel
theorem d_W_282 : decode code 282 = .ok (.invokevirtual 39, 3) := by decide +kernel
theorem d_W_285 : decode code 285 = .ok (.aload_n 2, 1) := by decide +kernel
theorem d_W_286 : decode code 286 = .ok (.aload_n 0, 1) := by decide +kernel
theorem d_W_287 : decode code 287 = .ok (.iload 4, 2) := by decide +kernel
theorem d_W_289 : decode code 289 = .ok (.iconst 1, 1) := by decide +kernel
theorem d_W_290 : decode code 290 = .ok (.iadd, 1) := by decide +kernel
theorem d_W_291 : decode code 291 = .ok (.iaload, 1) := by decide +kernel
theorem d_W_292 : decode code 292 = .ok (.invokevirtual 42, 3) := by decide +kernel
theorem d_W_295 : decode code 295 = .ok (.if_icmp .eq 451, 3) := by decide +kernel
theorem d_W_298 : decode code 298 = .ok (.iconst 0, 1) := by decide +kernel
theorem d_W_299 : decode code 299 = .ok (.ireturn, 1) := by decide +kernel
theorem d_W_300 : decode code 300 = .ok (.aload_n 1, 1) := by decide +kernel
theorem d_W_301 : decode code 301 = .ok (.aload_n 0, 1) := by decide +kernel
theorem d_W_302 : decode code 302 = .ok (.iload 4, 2) := by decide +kernel
theorem d_W_304 : decode code 304 = .ok (.iconst 1, 1) := by decide +kernel
theorem d_W_305 : decode code 305 = .ok (.iadd, 1) := by decide +kernel
theorem d_W_306 : decode code 306 = .ok (.iaload, 1) := by decide +kernel
theorem d_W_307 : decode code 307 = .ok (.aload_n 0, 1) := by decide +kernel
theorem d_W_308 : decode code 308 = .ok (.iload 4, 2) := by decide +kernel
theorem d_W_310 : decode code 310 = .ok (.iconst 2, 1) := by decide +kernel
theorem d_W_311 : decode code 311 = .ok (.iadd, 1) := by decide +kernel
theorem d_W_312 : decode code 312 = .ok (.iaload, 1) := by decide +kernel
theorem d_W_313 : decode code 313 = .ok (.invokevirtual 43, 3) := by decide +kernel
theorem d_W_316 : decode code 316 = .ok (.aload_n 2, 1) := by decide +kernel
theorem d_W_317 : decode code 317 = .ok (.aload_n 0, 1) := by decide +kernel
theorem d_W_318 : decode code 318 = .ok (.iload 4, 2) := by decide +kernel
theorem d_W_320 : decode code 320 = .ok (.iconst 1, 1) := by decide +kernel
theorem d_W_321 : decode code 321 = .ok (.iadd, 1) := by decide +kernel
theorem d_W_322 : decode code 322 = .ok (.iaload, 1) := by decide +kernel
theorem d_W_323 : decode code 323 = .ok (.aload_n 0, 1) := by decide +kernel
theorem d_W_324 : decode code 324 = .ok (.iload 4, 2) := by decide +kernel
theorem d_W_326 : decode code 326 = .ok (.iconst 2, 1) := by decide +kernel
theorem d_W_327 : decode code 327 = .ok (.iadd, 1) := by decide +kernel
theorem d_W_328 : decode code 328 = .ok (.iaload, 1) := by decide +kernel
theorem d_W_329 : decode code 329 = .ok (.invokevirtual 47, 3) := by decide +kernel
theorem d_W_332 : decode code 332 = .ok (.if_icmp .eq 414, 3) := by decide +kernel
theorem d_W_335 : decode code 335 = .ok (.iconst 0, 1) := by decide +kernel
theorem d_W_336 : decode code 336 = .ok (.ireturn, 1) := by decide +kernel
theorem d_W_337 : decode code 337 = .ok (.aload_n 1, 1) := by decide +kernel
theorem d_W_338 : decode code 338 = .ok (.invokevirtual 48, 3) := by decide +kernel
theorem d_W_341 : decode code 341 = .ok (.aload_n 2, 1) := by decide +kernel
theorem d_W_342 : decode code 342 = .ok (.invokevirtual 51, 3) := by decide +kernel
theorem d_W_345 : decode code 345 = .ok (.if_icmp .eq 401, 3) := by decide +kernel
theorem d_W_348 : decode code 348 = .ok (.iconst 0, 1) := by decide +kernel
theorem d_W_349 : decode code 349 = .ok (.ireturn, 1) := by decide +kernel
theorem d_W_350 : decode code 350 = .ok (.aload_n 1, 1) := by decide +kernel
theorem d_W_351 : decode code 351 = .ok (.aload_n 0, 1) := by decide +kernel
theorem d_W_352 : decode code 352 = .ok (.iload 4, 2) := by decide +kernel
theorem d_W_354 : decode code 354 = .ok (.iconst 1, 1) := by decide +kernel
theorem d_W_355 : decode code 355 = .ok (.iadd, 1) := by decide +kernel
theorem d_W_356 : decode code 356 = .ok (.iaload, 1) := by decide +kernel
theorem d_W_357 : decode code 357 = .ok (.invokevirtual 52, 3) := by decide +kernel
theorem d_W_360 : decode code 360 = .ok (.aload_n 2, 1) := by decide +kernel
theorem d_W_361 : decode code 361 = .ok (.aload_n 0, 1) := by decide +kernel
theorem d_W_362 : decode code 362 = .ok (.iload 4, 2) := by decide +kernel
theorem d_W_364 : decode code 364 = .ok (.iconst 1, 1) := by decide +kernel
theorem d_W_365 : decode code 365 = .ok (.iadd, 1) := by decide +kernel
theorem d_W_366 : decode code 366 = .ok (.iaload, 1) := by decide +kernel
theorem d_W_367 : decode code 367 = .ok (.invokevirtual 56, 3) := by decide +kernel
theorem d_W_370 : decode code 370 = .ok (.goto 376, 3) := by decide +kernel
theorem d_W_373 : decode code 373 = .ok (.aload_n 1, 1) := by decide +kernel
theorem d_W_374 : decode code 374 = .ok (.aload_n 3, 1) := by decide +kernel
theorem d_W_375 : decode code 375 = .ok (.invokestatic 57, 3) := by decide +kernel
theorem d_W_378 : decode code 378 = .ok (.istore 5, 2) := by decide +kernel
theorem d_W_380 : decode code 380 = .ok (.aload_n 2, 1) := by decide +kernel
theorem d_W_381 : decode code 381 = .ok (.invokevirtual 62, 3) := by decide +kernel
theorem d_W_384 : decode code 384 = .ok (.istore 6, 2) := by decide +kernel
theorem d_W_386 : decode code 386 = .ok (.aload_n 2, 1) := by decide +kernel
theorem d_W_387 : decode code 387 = .ok (.invokevirtual 63, 3) := by decide +kernel
theorem d_W_390 : decode code 390 = .ok (.iload 5, 2) := by decide +kernel
theorem d_W_392 : decode code 392 = .ok (.if_icmp .eq 5, 3) := by decide +kernel
theorem d_W_395 : decode code 395 = .ok (.iconst 0, 1) := by decide +kernel
theorem d_W_396 : decode code 396 = .ok (.ireturn, 1) := by decide +kernel
theorem d_W_397 : decode code 397 = .ok (.iload 5, 2) := by decide +kernel
theorem d_W_399 : decode code 399 = .ok (.ifCond .ne 15, 3) := by decide +kernel
theorem d_W_402 : decode code 402 = .ok (.aload_n 3, 1) := by decide +kernel
theorem d_W_403 : decode code 403 = .ok (.iconst 0, 1) := by decide +kernel
theorem d_W_404 : decode code 404 = .ok (.laload, 1) := by decide +kernel
theorem d_W_405 : decode code 405 = .ok (.iload 6, 2) := by decide +kernel
theorem d_W_407 : decode code 407 = .ok (.i2l, 1) := by decide +kernel
theorem d_W_408 : decode code 408 = .ok (.lcmp, 1) := by decide +kernel
theorem d_W_409 : decode code 409 = .ok (.ifCond .eq 5, 3) := by decide +kernel
theorem d_W_412 : decode code 412 = .ok (.iconst 0, 1) := by decide +kernel
theorem d_W_413 : decode code 413 = .ok (.ireturn, 1) := by decide +kernel
theorem d_W_414 : decode code 414 = .ok (.goto 332, 3) := by decide +kernel
theorem d_W_417 : decode code 417 = .ok (.aload_n 1, 1) := by decide +kernel
theorem d_W_418 : decode code 418 = .ok (.aload_n 0, 1) := by decide +kernel
theorem d_W_419 : decode code 419 = .ok (.iload 4, 2) := by decide +kernel
theorem d_W_421 : decode code 421 = .ok (.iconst 1, 1) := by decide +kernel
theorem d_W_422 : decode code 422 = .ok (.iadd, 1) := by decide +kernel
