/-! decode rows -/
theorem d_Model_init_419 : decode b_Model_init 419 = .ok (.bipush 49, 2) := by decide +kernel
theorem d_Model_init_421 : decode b_Model_init 421 = .ok (.bipush 115, 2) := by decide +kernel
theorem d_Model_init_423 : decode b_Model_init 423 = .ok (.iastore, 1) := by decide +kernel
theorem d_Model_init_424 : decode b_Model_init 424 = .ok (.dup, 1) := by decide +kernel
theorem d_Model_init_425 : decode b_Model_init 425 = .ok (.bipush 50, 2) := by decide +kernel
theorem d_Model_init_427 : decode b_Model_init 427 = .ok (.bipush 32, 2) := by decide +kernel
theorem d_Model_init_429 : decode b_Model_init 429 = .ok (.iastore, 1) := by decide +kernel
theorem d_Model_init_430 : decode b_Model_init 430 = .ok (.dup, 1) := by decide +kernel
theorem d_Model_init_431 : decode b_Model_init 431 = .ok (.bipush 51, 2) := by decide +kernel
theorem d_Model_init_433 : decode b_Model_init 433 = .ok (.bipush 48, 2) := by decide +kernel
theorem d_Model_init_435 : decode b_Model_init 435 = .ok (.iastore, 1) := by decide +kernel
theorem d_Model_init_436 : decode b_Model_init 436 = .ok (.dup, 1) := by decide +kernel
theorem d_Model_init_437 : decode b_Model_init 437 = .ok (.bipush 52, 2) := by decide +kernel
theorem d_Model_init_439 : decode b_Model_init 439 = .ok (.bipush 32, 2) := by decide +kernel
theorem d_Model_init_441 : decode b_Model_init 441 = .ok (.iastore, 1) := by decide +kernel
theorem d_Model_init_442 : decode b_Model_init 442 = .ok (.dup, 1) := by decide +kernel
theorem d_Model_init_443 : decode b_Model_init 443 = .ok (.bipush 53, 2) := by decide +kernel
theorem d_Model_init_445 : decode b_Model_init 445 = .ok (.bipush 45, 2) := by decide +kernel
theorem d_Model_init_447 : decode b_Model_init 447 = .ok (.iastore, 1) := by decide +kernel
theorem d_Model_init_448 : decode b_Model_init 448 = .ok (.dup, 1) := by decide +kernel
theorem d_Model_init_449 : decode b_Model_init 449 = .ok (.bipush 54, 2) := by decide +kernel
theorem d_Model_init_451 : decode b_Model_init 451 = .ok (.bipush 32, 2) := by decide +kernel
theorem d_Model_init_453 : decode b_Model_init 453 = .ok (.iastore, 1) := by decide +kernel
theorem d_Model_init_454 : decode b_Model_init 454 = .ok (.dup, 1) := by decide +kernel
theorem d_Model_init_455 : decode b_Model_init 455 = .ok (.bipush 55, 2) := by decide +kernel
theorem d_Model_init_457 : decode b_Model_init 457 = .ok (.bipush 97, 2) := by decide +kernel
theorem d_Model_init_459 : decode b_Model_init 459 = .ok (.iastore, 1) := by decide +kernel
theorem d_Model_init_460 : decode b_Model_init 460 = .ok (.dup, 1) := by decide +kernel
theorem d_Model_init_461 : decode b_Model_init 461 = .ok (.bipush 56, 2) := by decide +kernel
theorem d_Model_init_463 : decode b_Model_init 463 = .ok (.bipush 110, 2) := by decide +kernel
theorem d_Model_init_465 : decode b_Model_init 465 = .ok (.iastore, 1) := by decide +kernel
theorem d_Model_init_466 : decode b_Model_init 466 = .ok (.dup, 1) := by decide +kernel
theorem d_Model_init_467 : decode b_Model_init 467 = .ok (.bipush 57, 2) := by decide +kernel
theorem d_Model_init_469 : decode b_Model_init 469 = .ok (.bipush 103, 2) := by decide +kernel
theorem d_Model_init_471 : decode b_Model_init 471 = .ok (.iastore, 1) := by decide +kernel
theorem d_Model_init_472 : decode b_Model_init 472 = .ok (.dup, 1) := by decide +kernel
theorem d_Model_init_473 : decode b_Model_init 473 = .ok (.bipush 58, 2) := by decide +kernel
theorem d_Model_init_475 : decode b_Model_init 475 = .ok (.bipush 108, 2) := by decide +kernel
theorem d_Model_init_477 : decode b_Model_init 477 = .ok (.iastore, 1) := by decide +kernel
theorem d_Model_init_478 : decode b_Model_init 478 = .ok (.dup, 1) := by decide +kernel
theorem d_Model_init_479 : decode b_Model_init 479 = .ok (.bipush 59, 2) := by decide +kernel
theorem d_Model_init_481 : decode b_Model_init 481 = .ok (.bipush 101, 2) := by decide +kernel
theorem d_Model_init_483 : decode b_Model_init 483 = .ok (.iastore, 1) := by decide +kernel
theorem d_Model_init_484 : decode b_Model_init 484 = .ok (.dup, 1) := by decide +kernel
theorem d_Model_init_485 : decode b_Model_init 485 = .ok (.bipush 60, 2) := by decide +kernel
theorem d_Model_init_487 : decode b_Model_init 487 = .ok (.bipush 32, 2) := by decide +kernel
theorem d_Model_init_489 : decode b_Model_init 489 = .ok (.iastore, 1) := by decide +kernel
theorem d_Model_init_490 : decode b_Model_init 490 = .ok (.dup, 1) := by decide +kernel
theorem d_Model_init_491 : decode b_Model_init 491 = .ok (.bipush 61, 2) := by decide +kernel
theorem d_Model_init_493 : decode b_Model_init 493 = .ok (.bipush 59, 2) := by decide +kernel
theorem d_Model_init_495 : decode b_Model_init 495 = .ok (.iastore, 1) := by decide +kernel
theorem d_Model_init_496 : decode b_Model_init 496 = .ok (.putfield 49, 3) := by decide +kernel
theorem d_Model_init_499 : decode b_Model_init 499 = .ok (.aload_n 0, 1) := by decide +kernel
theorem d_Model_init_500 : decode b_Model_init 500 = .ok (.bipush 96, 2) := by decide +kernel
theorem d_Model_init_502 : decode b_Model_init 502 = .ok (.newarray .int, 2) := by decide +kernel
theorem d_Model_init_504 : decode b_Model_init 504 = .ok (.dup, 1) := by decide +kernel
theorem d_Model_init_505 : decode b_Model_init 505 = .ok (.iconst 0, 1) := by decide +kernel
theorem d_Model_init_506 : decode b_Model_init 506 = .ok (.bipush 102, 2) := by decide +kernel
theorem d_Model_init_508 : decode b_Model_init 508 = .ok (.iastore, 1) := by decide +kernel
theorem d_Model_init_509 : decode b_Model_init 509 = .ok (.dup, 1) := by decide +kernel
theorem d_Model_init_510 : decode b_Model_init 510 = .ok (.iconst 1, 1) := by decide +kernel
theorem d_Model_init_511 : decode b_Model_init 511 = .ok (.bipush 111, 2) := by decide +kernel
theorem d_Model_init_513 : decode b_Model_init 513 = .ok (.iastore, 1) := by decide +kernel
theorem d_Model_init_514 : decode b_Model_init 514 = .ok (.dup, 1) := by decide +kernel
theorem d_Model_init_515 : decode b_Model_init 515 = .ok (.iconst 2, 1) := by decide +kernel
theorem d_Model_init_516 : decode b_Model_init 516 = .ok (.bipush 114, 2) := by decide +kernel
theorem d_Model_init_518 : decode b_Model_init 518 = .ok (.iastore, 1) := by decide +kernel
theorem d_Model_init_519 : decode b_Model_init 519 = .ok (.dup, 1) := by decide +kernel
theorem d_Model_init_520 : decode b_Model_init 520 = .ok (.iconst 3, 1) := by decide +kernel
theorem d_Model_init_521 : decode b_Model_init 521 = .ok (.bipush 99, 2) := by decide +kernel
theorem d_Model_init_523 : decode b_Model_init 523 = .ok (.iastore, 1) := by decide +kernel
theorem d_Model_init_524 : decode b_Model_init 524 = .ok (.dup, 1) := by decide +kernel
theorem d_Model_init_525 : decode b_Model_init 525 = .ok (.iconst 4, 1) := by decide +kernel
theorem d_Model_init_526 : decode b_Model_init 526 = .ok (.bipush 101, 2) := by decide +kernel
theorem d_Model_init_528 : decode b_Model_init 528 = .ok (.iastore, 1) := by decide +kernel
theorem d_Model_init_529 : decode b_Model_init 529 = .ok (.dup, 1) := by decide +kernel
theorem d_Model_init_530 : decode b_Model_init 530 = .ok (.iconst 5, 1) := by decide +kernel
theorem d_Model_init_531 : decode b_Model_init 531 = .ok (.bipush 32, 2) := by decide +kernel
theorem d_Model_init_533 : decode b_Model_init 533 = .ok (.iastore, 1) := by decide +kernel
theorem d_Model_init_534 : decode b_Model_init 534 = .ok (.dup, 1) := by decide +kernel
theorem d_Model_init_535 : decode b_Model_init 535 = .ok (.bipush 6, 2) := by decide +kernel
theorem d_Model_init_537 : decode b_Model_init 537 = .ok (.bipush 32, 2) := by decide +kernel
theorem d_Model_init_539 : decode b_Model_init 539 = .ok (.iastore, 1) := by decide +kernel
theorem d_Model_init_540 : decode b_Model_init 540 = .ok (.dup, 1) := by decide +kernel
theorem d_Model_init_541 : decode b_Model_init 541 = .ok (.bipush 7, 2) := by decide +kernel
theorem d_Model_init_543 : decode b_Model_init 543 = .ok (.bipush 32, 2) := by decide +kernel
theorem d_Model_init_545 : decode b_Model_init 545 = .ok (.iastore, 1) := by decide +kernel
theorem d_Model_init_546 : decode b_Model_init 546 = .ok (.dup, 1) := by decide +kernel
theorem d_Model_init_547 : decode b_Model_init 547 = .ok (.bipush 8, 2) := by decide +kernel
theorem d_Model_init_549 : decode b_Model_init 549 = .ok (.bipush 115, 2) := by decide +kernel
