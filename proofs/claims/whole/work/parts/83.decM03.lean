/-! decode rows -/
theorem d_Model_init_285 : decode b_Model_init 285 = .ok (.iastore, 1) := by decide +kernel
theorem d_Model_init_286 : decode b_Model_init 286 = .ok (.dup, 1) := by decide +kernel
theorem d_Model_init_287 : decode b_Model_init 287 = .ok (.bipush 27, 2) := by decide +kernel
theorem d_Model_init_289 : decode b_Model_init 289 = .ok (.bipush 100, 2) := by decide +kernel
theorem d_Model_init_291 : decode b_Model_init 291 = .ok (.iastore, 1) := by decide +kernel
theorem d_Model_init_292 : decode b_Model_init 292 = .ok (.dup, 1) := by decide +kernel
theorem d_Model_init_293 : decode b_Model_init 293 = .ok (.bipush 28, 2) := by decide +kernel
theorem d_Model_init_295 : decode b_Model_init 295 = .ok (.bipush 32, 2) := by decide +kernel
theorem d_Model_init_297 : decode b_Model_init 297 = .ok (.iastore, 1) := by decide +kernel
theorem d_Model_init_298 : decode b_Model_init 298 = .ok (.dup, 1) := by decide +kernel
theorem d_Model_init_299 : decode b_Model_init 299 = .ok (.bipush 29, 2) := by decide +kernel
theorem d_Model_init_301 : decode b_Model_init 301 = .ok (.bipush 59, 2) := by decide +kernel
theorem d_Model_init_303 : decode b_Model_init 303 = .ok (.iastore, 1) := by decide +kernel
theorem d_Model_init_304 : decode b_Model_init 304 = .ok (.dup, 1) := by decide +kernel
theorem d_Model_init_305 : decode b_Model_init 305 = .ok (.bipush 30, 2) := by decide +kernel
theorem d_Model_init_307 : decode b_Model_init 307 = .ok (.bipush 32, 2) := by decide +kernel
theorem d_Model_init_309 : decode b_Model_init 309 = .ok (.iastore, 1) := by decide +kernel
theorem d_Model_init_310 : decode b_Model_init 310 = .ok (.dup, 1) := by decide +kernel
theorem d_Model_init_311 : decode b_Model_init 311 = .ok (.bipush 31, 2) := by decide +kernel
theorem d_Model_init_313 : decode b_Model_init 313 = .ok (.bipush 115, 2) := by decide +kernel
theorem d_Model_init_315 : decode b_Model_init 315 = .ok (.iastore, 1) := by decide +kernel
theorem d_Model_init_316 : decode b_Model_init 316 = .ok (.dup, 1) := by decide +kernel
theorem d_Model_init_317 : decode b_Model_init 317 = .ok (.bipush 32, 2) := by decide +kernel
theorem d_Model_init_319 : decode b_Model_init 319 = .ok (.bipush 112, 2) := by decide +kernel
theorem d_Model_init_321 : decode b_Model_init 321 = .ok (.iastore, 1) := by decide +kernel
theorem d_Model_init_322 : decode b_Model_init 322 = .ok (.dup, 1) := by decide +kernel
theorem d_Model_init_323 : decode b_Model_init 323 = .ok (.bipush 33, 2) := by decide +kernel
theorem d_Model_init_325 : decode b_Model_init 325 = .ok (.bipush 101, 2) := by decide +kernel
theorem d_Model_init_327 : decode b_Model_init 327 = .ok (.iastore, 1) := by decide +kernel
theorem d_Model_init_328 : decode b_Model_init 328 = .ok (.dup, 1) := by decide +kernel
theorem d_Model_init_329 : decode b_Model_init 329 = .ok (.bipush 34, 2) := by decide +kernel
theorem d_Model_init_331 : decode b_Model_init 331 = .ok (.bipush 110, 2) := by decide +kernel
theorem d_Model_init_333 : decode b_Model_init 333 = .ok (.iastore, 1) := by decide +kernel
theorem d_Model_init_334 : decode b_Model_init 334 = .ok (.dup, 1) := by decide +kernel
theorem d_Model_init_335 : decode b_Model_init 335 = .ok (.bipush 35, 2) := by decide +kernel
theorem d_Model_init_337 : decode b_Model_init 337 = .ok (.bipush 100, 2) := by decide +kernel
theorem d_Model_init_339 : decode b_Model_init 339 = .ok (.iastore, 1) := by decide +kernel
theorem d_Model_init_340 : decode b_Model_init 340 = .ok (.dup, 1) := by decide +kernel
theorem d_Model_init_341 : decode b_Model_init 341 = .ok (.bipush 36, 2) := by decide +kernel
theorem d_Model_init_343 : decode b_Model_init 343 = .ok (.bipush 115, 2) := by decide +kernel
theorem d_Model_init_345 : decode b_Model_init 345 = .ok (.iastore, 1) := by decide +kernel
theorem d_Model_init_346 : decode b_Model_init 346 = .ok (.dup, 1) := by decide +kernel
theorem d_Model_init_347 : decode b_Model_init 347 = .ok (.bipush 37, 2) := by decide +kernel
theorem d_Model_init_349 : decode b_Model_init 349 = .ok (.bipush 32, 2) := by decide +kernel
theorem d_Model_init_351 : decode b_Model_init 351 = .ok (.iastore, 1) := by decide +kernel
theorem d_Model_init_352 : decode b_Model_init 352 = .ok (.dup, 1) := by decide +kernel
theorem d_Model_init_353 : decode b_Model_init 353 = .ok (.bipush 38, 2) := by decide +kernel
theorem d_Model_init_355 : decode b_Model_init 355 = .ok (.bipush 104, 2) := by decide +kernel
theorem d_Model_init_357 : decode b_Model_init 357 = .ok (.iastore, 1) := by decide +kernel
theorem d_Model_init_358 : decode b_Model_init 358 = .ok (.dup, 1) := by decide +kernel
theorem d_Model_init_359 : decode b_Model_init 359 = .ok (.bipush 39, 2) := by decide +kernel
theorem d_Model_init_361 : decode b_Model_init 361 = .ok (.bipush 97, 2) := by decide +kernel
theorem d_Model_init_363 : decode b_Model_init 363 = .ok (.iastore, 1) := by decide +kernel
theorem d_Model_init_364 : decode b_Model_init 364 = .ok (.dup, 1) := by decide +kernel
theorem d_Model_init_365 : decode b_Model_init 365 = .ok (.bipush 40, 2) := by decide +kernel
theorem d_Model_init_367 : decode b_Model_init 367 = .ok (.bipush 114, 2) := by decide +kernel
theorem d_Model_init_369 : decode b_Model_init 369 = .ok (.iastore, 1) := by decide +kernel
theorem d_Model_init_370 : decode b_Model_init 370 = .ok (.dup, 1) := by decide +kernel
theorem d_Model_init_371 : decode b_Model_init 371 = .ok (.bipush 41, 2) := by decide +kernel
theorem d_Model_init_373 : decode b_Model_init 373 = .ok (.bipush 100, 2) := by decide +kernel
theorem d_Model_init_375 : decode b_Model_init 375 = .ok (.iastore, 1) := by decide +kernel
theorem d_Model_init_376 : decode b_Model_init 376 = .ok (.dup, 1) := by decide +kernel
theorem d_Model_init_377 : decode b_Model_init 377 = .ok (.bipush 42, 2) := by decide +kernel
theorem d_Model_init_379 : decode b_Model_init 379 = .ok (.bipush 32, 2) := by decide +kernel
theorem d_Model_init_381 : decode b_Model_init 381 = .ok (.iastore, 1) := by decide +kernel
theorem d_Model_init_382 : decode b_Model_init 382 = .ok (.dup, 1) := by decide +kernel
theorem d_Model_init_383 : decode b_Model_init 383 = .ok (.bipush 43, 2) := by decide +kernel
theorem d_Model_init_385 : decode b_Model_init 385 = .ok (.bipush 59, 2) := by decide +kernel
theorem d_Model_init_387 : decode b_Model_init 387 = .ok (.iastore, 1) := by decide +kernel
theorem d_Model_init_388 : decode b_Model_init 388 = .ok (.dup, 1) := by decide +kernel
theorem d_Model_init_389 : decode b_Model_init 389 = .ok (.bipush 44, 2) := by decide +kernel
theorem d_Model_init_391 : decode b_Model_init 391 = .ok (.bipush 32, 2) := by decide +kernel
theorem d_Model_init_393 : decode b_Model_init 393 = .ok (.iastore, 1) := by decide +kernel
theorem d_Model_init_394 : decode b_Model_init 394 = .ok (.dup, 1) := by decide +kernel
theorem d_Model_init_395 : decode b_Model_init 395 = .ok (.bipush 45, 2) := by decide +kernel
theorem d_Model_init_397 : decode b_Model_init 397 = .ok (.bipush 104, 2) := by decide +kernel
theorem d_Model_init_399 : decode b_Model_init 399 = .ok (.iastore, 1) := by decide +kernel
theorem d_Model_init_400 : decode b_Model_init 400 = .ok (.dup, 1) := by decide +kernel
theorem d_Model_init_401 : decode b_Model_init 401 = .ok (.bipush 46, 2) := by decide +kernel
theorem d_Model_init_403 : decode b_Model_init 403 = .ok (.bipush 117, 2) := by decide +kernel
theorem d_Model_init_405 : decode b_Model_init 405 = .ok (.iastore, 1) := by decide +kernel
theorem d_Model_init_406 : decode b_Model_init 406 = .ok (.dup, 1) := by decide +kernel
theorem d_Model_init_407 : decode b_Model_init 407 = .ok (.bipush 47, 2) := by decide +kernel
theorem d_Model_init_409 : decode b_Model_init 409 = .ok (.bipush 114, 2) := by decide +kernel
theorem d_Model_init_411 : decode b_Model_init 411 = .ok (.iastore, 1) := by decide +kernel
theorem d_Model_init_412 : decode b_Model_init 412 = .ok (.dup, 1) := by decide +kernel
theorem d_Model_init_413 : decode b_Model_init 413 = .ok (.bipush 48, 2) := by decide +kernel
theorem d_Model_init_415 : decode b_Model_init 415 = .ok (.bipush 116, 2) := by decide +kernel
theorem d_Model_init_417 : decode b_Model_init 417 = .ok (.iastore, 1) := by decide +kernel
theorem d_Model_init_418 : decode b_Model_init 418 = .ok (.dup, 1) := by decide +kernel
