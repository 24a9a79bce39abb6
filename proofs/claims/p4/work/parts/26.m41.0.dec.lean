theorem d_L_0 : decode YL.2.1 0 = .ok (.new 7, 3) ∧ 0 + 3 = 3 := by decide +kernel
theorem d_L_3 : decode YL.2.1 3 = .ok (.dup, 1) ∧ 3 + 1 = 4 := by decide +kernel
theorem d_L_4 : decode YL.2.1 4 = .ok (.invokespecial 9, 3) ∧ 4 + 3 = 7 := by decide +kernel
theorem d_L_7 : decode YL.2.1 7 = .ok (.astore_n 1, 1) ∧ 7 + 1 = 8 := by decide +kernel
theorem d_L_8 : decode YL.2.1 8 = .ok (.new 10, 3) ∧ 8 + 3 = 11 := by decide +kernel
theorem d_L_11 : decode YL.2.1 11 = .ok (.dup, 1) ∧ 11 + 1 = 12 := by decide +kernel
theorem d_L_12 : decode YL.2.1 12 = .ok (.invokespecial 12, 3) ∧ 12 + 3 = 15 := by decide +kernel
theorem d_L_15 : decode YL.2.1 15 = .ok (.astore_n 2, 1) ∧ 15 + 1 = 16 := by decide +kernel
theorem d_L_16 : decode YL.2.1 16 = .ok (.iconst 0, 1) ∧ 16 + 1 = 17 := by decide +kernel
theorem d_L_17 : decode YL.2.1 17 = .ok (.istore_n 3, 1) ∧ 17 + 1 = 18 := by decide +kernel
theorem d_L_18 : decode YL.2.1 18 = .ok (.iload_n 3, 1) ∧ 18 + 1 = 19 := by decide +kernel
theorem d_L_19 : decode YL.2.1 19 = .ok (.aload_n 0, 1) ∧ 19 + 1 = 20 := by decide +kernel
theorem d_L_20 : decode YL.2.1 20 = .ok (.arraylength, 1) ∧ 20 + 1 = 21 := by decide +kernel
theorem d_L_21 : decode YL.2.1 21 = .ok (.bipush 8, 2) ∧ 21 + 2 = 23 := by decide +kernel
theorem d_L_23 : decode YL.2.1 23 = .ok (.isub, 1) ∧ 23 + 1 = 24 := by decide +kernel
theorem d_L_24 : decode YL.2.1 24 = .ok (.if_icmp .gt 3458, 3) ∧ ((24 : Nat) : Int) + 3458 = ((3482 : Nat) : Int) ∧ 24 + 3 = 27 := by decide +kernel
theorem d_L_27 : decode YL.2.1 27 = .ok (.aload_n 0, 1) ∧ 27 + 1 = 28 := by decide +kernel
theorem d_L_28 : decode YL.2.1 28 = .ok (.iload_n 3, 1) ∧ 28 + 1 = 29 := by decide +kernel
theorem d_L_29 : decode YL.2.1 29 = .ok (.iaload, 1) ∧ 29 + 1 = 30 := by decide +kernel
theorem d_L_30 : decode YL.2.1 30 = .ok (.bipush 127, 2) ∧ 30 + 2 = 32 := by decide +kernel
theorem d_L_32 : decode YL.2.1 32 = .ok (.iand, 1) ∧ 32 + 1 = 33 := by decide +kernel
theorem d_L_33 : decode YL.2.1 33 = .ok (.tableswitch 3443 0 83 #[351, 414, 437, 460, 473, 486, 539, 562, 615, 648, 701, 784, 837, 924, 957, 990, 1039, 1062, 1095, 1128, 1187, 1220, 1243, 1266, 1289, 1332, 1395, 1418, 1471, 1524, 1557, 1580, 1613, 1656, 1709, 1752, 1765, 1788, 1811, 1844, 1877, 1920, 1933, 1966, 2019, 2052, 2085, 2138, 2191, 2234, 2247, 2334, 2367, 2420, 2443, 2486, 2519, 2562, 2605, 2638, 2671, 2724, 2737, 2750, 2763, 2796, 2819, 2852, 2875, 2938, 3001, 3034, 3067, 3090, 3113, 3166, 3199, 3222, 3255, 3268, 3301, 3344, 3357, 3390], 351) := by decide +kernel
theorem d_L_384 : decode YL.2.1 384 = .ok (.aload_n 1, 1) ∧ 384 + 1 = 385 := by decide +kernel
theorem d_L_385 : decode YL.2.1 385 = .ok (.aload_n 0, 1) ∧ 385 + 1 = 386 := by decide +kernel
theorem d_L_386 : decode YL.2.1 386 = .ok (.iload_n 3, 1) ∧ 386 + 1 = 387 := by decide +kernel
theorem d_L_387 : decode YL.2.1 387 = .ok (.iconst 1, 1) ∧ 387 + 1 = 388 := by decide +kernel
theorem d_L_388 : decode YL.2.1 388 = .ok (.iadd, 1) ∧ 388 + 1 = 389 := by decide +kernel
theorem d_L_389 : decode YL.2.1 389 = .ok (.iaload, 1) ∧ 389 + 1 = 390 := by decide +kernel
theorem d_L_390 : decode YL.2.1 390 = .ok (.aload_n 0, 1) ∧ 390 + 1 = 391 := by decide +kernel
theorem d_L_391 : decode YL.2.1 391 = .ok (.iload_n 3, 1) ∧ 391 + 1 = 392 := by decide +kernel
theorem d_L_392 : decode YL.2.1 392 = .ok (.iconst 2, 1) ∧ 392 + 1 = 393 := by decide +kernel
theorem d_L_393 : decode YL.2.1 393 = .ok (.iadd, 1) ∧ 393 + 1 = 394 := by decide +kernel
theorem d_L_394 : decode YL.2.1 394 = .ok (.iaload, 1) ∧ 394 + 1 = 395 := by decide +kernel
theorem d_L_395 : decode YL.2.1 395 = .ok (.i2l, 1) ∧ 395 + 1 = 396 := by decide +kernel
theorem d_L_396 : decode YL.2.1 396 = .ok (.bipush 32, 2) ∧ 396 + 2 = 398 := by decide +kernel
theorem d_L_398 : decode YL.2.1 398 = .ok (.lshl, 1) ∧ 398 + 1 = 399 := by decide +kernel
theorem d_L_399 : decode YL.2.1 399 = .ok (.aload_n 0, 1) ∧ 399 + 1 = 400 := by decide +kernel
theorem d_L_400 : decode YL.2.1 400 = .ok (.iload_n 3, 1) ∧ 400 + 1 = 401 := by decide +kernel
theorem d_L_401 : decode YL.2.1 401 = .ok (.iconst 3, 1) ∧ 401 + 1 = 402 := by decide +kernel
theorem d_L_402 : decode YL.2.1 402 = .ok (.iadd, 1) ∧ 402 + 1 = 403 := by decide +kernel
theorem d_L_403 : decode YL.2.1 403 = .ok (.iaload, 1) ∧ 403 + 1 = 404 := by decide +kernel
theorem d_L_404 : decode YL.2.1 404 = .ok (.i2l, 1) ∧ 404 + 1 = 405 := by decide +kernel
theorem d_L_405 : decode YL.2.1 405 = .ok (.ldc2_w 13, 3) ∧ 405 + 3 = 408 := by decide +kernel
theorem d_L_408 : decode YL.2.1 408 = .ok (.land, 1) ∧ 408 + 1 = 409 := by decide +kernel
theorem d_L_409 : decode YL.2.1 409 = .ok (.lor, 1) ∧ 409 + 1 = 410 := by decide +kernel
theorem d_L_410 : decode YL.2.1 410 = .ok (.invokevirtual 15, 3) ∧ 410 + 3 = 413 := by decide +kernel
theorem d_L_413 : decode YL.2.1 413 = .ok (.pop, 1) ∧ 413 + 1 = 414 := by decide +kernel
theorem d_L_414 : decode YL.2.1 414 = .ok (.aload_n 2, 1) ∧ 414 + 1 = 415 := by decide +kernel
theorem d_L_415 : decode YL.2.1 415 = .ok (.aload_n 0, 1) ∧ 415 + 1 = 416 := by decide +kernel
theorem d_L_416 : decode YL.2.1 416 = .ok (.iload_n 3, 1) ∧ 416 + 1 = 417 := by decide +kernel
theorem d_L_417 : decode YL.2.1 417 = .ok (.iconst 1, 1) ∧ 417 + 1 = 418 := by decide +kernel
theorem d_L_418 : decode YL.2.1 418 = .ok (.iadd, 1) ∧ 418 + 1 = 419 := by decide +kernel
theorem d_L_419 : decode YL.2.1 419 = .ok (.iaload, 1) ∧ 419 + 1 = 420 := by decide +kernel
theorem d_L_420 : decode YL.2.1 420 = .ok (.aload_n 0, 1) ∧ 420 + 1 = 421 := by decide +kernel
theorem d_L_421 : decode YL.2.1 421 = .ok (.iload_n 3, 1) ∧ 421 + 1 = 422 := by decide +kernel
theorem d_L_422 : decode YL.2.1 422 = .ok (.iconst 2, 1) ∧ 422 + 1 = 423 := by decide +kernel
theorem d_L_423 : decode YL.2.1 423 = .ok (.iadd, 1) ∧ 423 + 1 = 424 := by decide +kernel
theorem d_L_424 : decode YL.2.1 424 = .ok (.iaload, 1) ∧ 424 + 1 = 425 := by decide +kernel
theorem d_L_425 : decode YL.2.1 425 = .ok (.i2l, 1) ∧ 425 + 1 = 426 := by decide +kernel
theorem d_L_426 : decode YL.2.1 426 = .ok (.bipush 32, 2) ∧ 426 + 2 = 428 := by decide +kernel
theorem d_L_428 : decode YL.2.1 428 = .ok (.lshl, 1) ∧ 428 + 1 = 429 := by decide +kernel
theorem d_L_429 : decode YL.2.1 429 = .ok (.aload_n 0, 1) ∧ 429 + 1 = 430 := by decide +kernel
theorem d_L_430 : decode YL.2.1 430 = .ok (.iload_n 3, 1) ∧ 430 + 1 = 431 := by decide +kernel
theorem d_L_431 : decode YL.2.1 431 = .ok (.iconst 3, 1) ∧ 431 + 1 = 432 := by decide +kernel
theorem d_L_432 : decode YL.2.1 432 = .ok (.iadd, 1) ∧ 432 + 1 = 433 := by decide +kernel
theorem d_L_433 : decode YL.2.1 433 = .ok (.iaload, 1) ∧ 433 + 1 = 434 := by decide +kernel
theorem d_L_434 : decode YL.2.1 434 = .ok (.i2l, 1) ∧ 434 + 1 = 435 := by decide +kernel
theorem d_L_435 : decode YL.2.1 435 = .ok (.ldc2_w 13, 3) ∧ 435 + 3 = 438 := by decide +kernel
theorem d_L_438 : decode YL.2.1 438 = .ok (.land, 1) ∧ 438 + 1 = 439 := by decide +kernel
theorem d_L_439 : decode YL.2.1 439 = .ok (.lor, 1) ∧ 439 + 1 = 440 := by decide +kernel
theorem d_L_440 : decode YL.2.1 440 = .ok (.invokevirtual 19, 3) ∧ 440 + 3 = 443 := by decide +kernel
theorem d_L_443 : decode YL.2.1 443 = .ok (.pop, 1) ∧ 443 + 1 = 444 := by decide +kernel
theorem d_L_444 : decode YL.2.1 444 = .ok (.goto 3032, 3) ∧ ((444 : Nat) : Int) + 3032 = ((3476 : Nat) : Int) ∧ 444 + 3 = 447 := by decide +kernel
theorem d_L_447 : decode YL.2.1 447 = .ok (.aload_n 1, 1) ∧ 447 + 1 = 448 := by decide +kernel
theorem d_L_448 : decode YL.2.1 448 = .ok (.aload_n 0, 1) ∧ 448 + 1 = 449 := by decide +kernel
theorem d_L_449 : decode YL.2.1 449 = .ok (.iload_n 3, 1) ∧ 449 + 1 = 450 := by decide +kernel
theorem d_L_450 : decode YL.2.1 450 = .ok (.iconst 1, 1) ∧ 450 + 1 = 451 := by decide +kernel
theorem d_L_451 : decode YL.2.1 451 = .ok (.iadd, 1) ∧ 451 + 1 = 452 := by decide +kernel
theorem d_L_452 : decode YL.2.1 452 = .ok (.iaload, 1) ∧ 452 + 1 = 453 := by decide +kernel
theorem d_L_453 : decode YL.2.1 453 = .ok (.invokevirtual 20, 3) ∧ 453 + 3 = 456 := by decide +kernel
theorem d_L_456 : decode YL.2.1 456 = .ok (.pop, 1) ∧ 456 + 1 = 457 := by decide +kernel
theorem d_L_457 : decode YL.2.1 457 = .ok (.aload_n 2, 1) ∧ 457 + 1 = 458 := by decide +kernel
theorem d_L_458 : decode YL.2.1 458 = .ok (.aload_n 0, 1) ∧ 458 + 1 = 459 := by decide +kernel
theorem d_L_459 : decode YL.2.1 459 = .ok (.iload_n 3, 1) ∧ 459 + 1 = 460 := by decide +kernel
theorem d_L_460 : decode YL.2.1 460 = .ok (.iconst 1, 1) ∧ 460 + 1 = 461 := by decide +kernel
theorem d_L_461 : decode YL.2.1 461 = .ok (.iadd, 1) ∧ 461 + 1 = 462 := by decide +kernel
theorem d_L_462 : decode YL.2.1 462 = .ok (.iaload, 1) ∧ 462 + 1 = 463 := by decide +kernel
theorem d_L_463 : decode YL.2.1 463 = .ok (.invokevirtual 24, 3) ∧ 463 + 3 = 466 := by decide +kernel
theorem d_L_466 : decode YL.2.1 466 = .ok (.pop, 1) ∧ 466 + 1 = 467 := by decide +kernel
theorem d_L_467 : decode YL.2.1 467 = .ok (.goto 3009, 3) ∧ ((467 : Nat) : Int) + 3009 = ((3476 : Nat) : Int) ∧ 467 + 3 = 470 := by decide +kernel
theorem d_L_470 : decode YL.2.1 470 = .ok (.aload_n 1, 1) ∧ 470 + 1 = 471 := by decide +kernel
theorem d_L_471 : decode YL.2.1 471 = .ok (.aload_n 0, 1) ∧ 471 + 1 = 472 := by decide +kernel
theorem d_L_472 : decode YL.2.1 472 = .ok (.iload_n 3, 1) ∧ 472 + 1 = 473 := by decide +kernel
theorem d_L_473 : decode YL.2.1 473 = .ok (.iconst 1, 1) ∧ 473 + 1 = 474 := by decide +kernel
theorem d_L_474 : decode YL.2.1 474 = .ok (.iadd, 1) ∧ 474 + 1 = 475 := by decide +kernel
theorem d_L_475 : decode YL.2.1 475 = .ok (.iaload, 1) ∧ 475 + 1 = 476 := by decide +kernel
theorem d_L_476 : decode YL.2.1 476 = .ok (.invokevirtual 25, 3) ∧ 476 + 3 = 479 := by decide +kernel
theorem d_L_479 : decode YL.2.1 479 = .ok (.aload_n 2, 1) ∧ 479 + 1 = 480 := by decide +kernel
theorem d_L_480 : decode YL.2.1 480 = .ok (.aload_n 0, 1) ∧ 480 + 1 = 481 := by decide +kernel
theorem d_L_481 : decode YL.2.1 481 = .ok (.iload_n 3, 1) ∧ 481 + 1 = 482 := by decide +kernel
theorem d_L_482 : decode YL.2.1 482 = .ok (.iconst 1, 1) ∧ 482 + 1 = 483 := by decide +kernel
theorem d_L_483 : decode YL.2.1 483 = .ok (.iadd, 1) ∧ 483 + 1 = 484 := by decide +kernel
theorem d_L_484 : decode YL.2.1 484 = .ok (.iaload, 1) ∧ 484 + 1 = 485 := by decide +kernel
theorem d_L_485 : decode YL.2.1 485 = .ok (.invokevirtual 28, 3) ∧ 485 + 3 = 488 := by decide +kernel
theorem d_L_488 : decode YL.2.1 488 = .ok (.if_icmp .eq 2988, 3) ∧ ((488 : Nat) : Int) + 2988 = ((3476 : Nat) : Int) ∧ 488 + 3 = 491 := by decide +kernel
theorem d_L_491 : decode YL.2.1 491 = .ok (.iconst 0, 1) ∧ 491 + 1 = 492 := by decide +kernel
theorem d_L_492 : decode YL.2.1 492 = .ok (.ireturn, 1) := by decide +kernel
theorem d_L_493 : decode YL.2.1 493 = .ok (.aload_n 1, 1) ∧ 493 + 1 = 494 := by decide +kernel
theorem d_L_494 : decode YL.2.1 494 = .ok (.invokevirtual 29, 3) ∧ 494 + 3 = 497 := by decide +kernel
theorem d_L_497 : decode YL.2.1 497 = .ok (.pop, 1) ∧ 497 + 1 = 498 := by decide +kernel
theorem d_L_498 : decode YL.2.1 498 = .ok (.aload_n 2, 1) ∧ 498 + 1 = 499 := by decide +kernel
theorem d_L_499 : decode YL.2.1 499 = .ok (.invokevirtual 33, 3) ∧ 499 + 3 = 502 := by decide +kernel
theorem d_L_502 : decode YL.2.1 502 = .ok (.pop, 1) ∧ 502 + 1 = 503 := by decide +kernel
theorem d_L_503 : decode YL.2.1 503 = .ok (.goto 2973, 3) ∧ ((503 : Nat) : Int) + 2973 = ((3476 : Nat) : Int) ∧ 503 + 3 = 506 := by decide +kernel
theorem d_L_506 : decode YL.2.1 506 = .ok (.aload_n 1, 1) ∧ 506 + 1 = 507 := by decide +kernel
theorem d_L_507 : decode YL.2.1 507 = .ok (.invokevirtual 34, 3) ∧ 507 + 3 = 510 := by decide +kernel
theorem d_L_510 : decode YL.2.1 510 = .ok (.pop, 1) ∧ 510 + 1 = 511 := by decide +kernel
theorem d_L_511 : decode YL.2.1 511 = .ok (.aload_n 2, 1) ∧ 511 + 1 = 512 := by decide +kernel
theorem d_L_512 : decode YL.2.1 512 = .ok (.invokevirtual 37, 3) ∧ 512 + 3 = 515 := by decide +kernel
theorem d_L_515 : decode YL.2.1 515 = .ok (.pop, 1) ∧ 515 + 1 = 516 := by decide +kernel
theorem d_L_516 : decode YL.2.1 516 = .ok (.goto 2960, 3) ∧ ((516 : Nat) : Int) + 2960 = ((3476 : Nat) : Int) ∧ 516 + 3 = 519 := by decide +kernel
theorem d_L_519 : decode YL.2.1 519 = .ok (.aload_n 1, 1) ∧ 519 + 1 = 520 := by decide +kernel
theorem d_L_520 : decode YL.2.1 520 = .ok (.aload_n 0, 1) ∧ 520 + 1 = 521 := by decide +kernel
theorem d_L_521 : decode YL.2.1 521 = .ok (.iload_n 3, 1) ∧ 521 + 1 = 522 := by decide +kernel
theorem d_L_522 : decode YL.2.1 522 = .ok (.iconst 1, 1) ∧ 522 + 1 = 523 := by decide +kernel
theorem d_L_523 : decode YL.2.1 523 = .ok (.iadd, 1) ∧ 523 + 1 = 524 := by decide +kernel
theorem d_L_524 : decode YL.2.1 524 = .ok (.iaload, 1) ∧ 524 + 1 = 525 := by decide +kernel
theorem d_L_525 : decode YL.2.1 525 = .ok (.aload_n 0, 1) ∧ 525 + 1 = 526 := by decide +kernel
theorem d_L_526 : decode YL.2.1 526 = .ok (.iload_n 3, 1) ∧ 526 + 1 = 527 := by decide +kernel
theorem d_L_527 : decode YL.2.1 527 = .ok (.iconst 2, 1) ∧ 527 + 1 = 528 := by decide +kernel
theorem d_L_528 : decode YL.2.1 528 = .ok (.iadd, 1) ∧ 528 + 1 = 529 := by decide +kernel
theorem d_L_529 : decode YL.2.1 529 = .ok (.iaload, 1) ∧ 529 + 1 = 530 := by decide +kernel
theorem d_L_530 : decode YL.2.1 530 = .ok (.aload_n 0, 1) ∧ 530 + 1 = 531 := by decide +kernel
theorem d_L_531 : decode YL.2.1 531 = .ok (.iload_n 3, 1) ∧ 531 + 1 = 532 := by decide +kernel
theorem d_L_532 : decode YL.2.1 532 = .ok (.iconst 3, 1) ∧ 532 + 1 = 533 := by decide +kernel
theorem d_L_533 : decode YL.2.1 533 = .ok (.iadd, 1) ∧ 533 + 1 = 534 := by decide +kernel
theorem d_L_534 : decode YL.2.1 534 = .ok (.iaload, 1) ∧ 534 + 1 = 535 := by decide +kernel
theorem d_L_535 : decode YL.2.1 535 = .ok (.aload_n 0, 1) ∧ 535 + 1 = 536 := by decide +kernel
theorem d_L_536 : decode YL.2.1 536 = .ok (.iload_n 3, 1) ∧ 536 + 1 = 537 := by decide +kernel
theorem d_L_537 : decode YL.2.1 537 = .ok (.iconst 4, 1) ∧ 537 + 1 = 538 := by decide +kernel
theorem d_L_538 : decode YL.2.1 538 = .ok (.iadd, 1) ∧ 538 + 1 = 539 := by decide +kernel
theorem d_L_539 : decode YL.2.1 539 = .ok (.iaload, 1) ∧ 539 + 1 = 540 := by decide +kernel
theorem d_L_540 : decode YL.2.1 540 = .ok (.invokevirtual 38, 3) ∧ 540 + 3 = 543 := by decide +kernel
theorem d_L_543 : decode YL.2.1 543 = .ok (.pop, 1) ∧ 543 + 1 = 544 := by decide +kernel
theorem d_L_544 : decode YL.2.1 544 = .ok (.aload_n 2, 1) ∧ 544 + 1 = 545 := by decide +kernel
theorem d_L_545 : decode YL.2.1 545 = .ok (.aload_n 0, 1) ∧ 545 + 1 = 546 := by decide +kernel
theorem d_L_546 : decode YL.2.1 546 = .ok (.iload_n 3, 1) ∧ 546 + 1 = 547 := by decide +kernel
theorem d_L_547 : decode YL.2.1 547 = .ok (.iconst 1, 1) ∧ 547 + 1 = 548 := by decide +kernel
theorem d_L_548 : decode YL.2.1 548 = .ok (.iadd, 1) ∧ 548 + 1 = 549 := by decide +kernel
theorem d_L_549 : decode YL.2.1 549 = .ok (.iaload, 1) ∧ 549 + 1 = 550 := by decide +kernel
theorem d_L_550 : decode YL.2.1 550 = .ok (.aload_n 0, 1) ∧ 550 + 1 = 551 := by decide +kernel
theorem d_L_551 : decode YL.2.1 551 = .ok (.iload_n 3, 1) ∧ 551 + 1 = 552 := by decide +kernel
theorem d_L_552 : decode YL.2.1 552 = .ok (.iconst 2, 1) ∧ 552 + 1 = 553 := by decide +kernel
theorem d_L_553 : decode YL.2.1 553 = .ok (.iadd, 1) ∧ 553 + 1 = 554 := by decide +kernel
theorem d_L_554 : decode YL.2.1 554 = .ok (.iaload, 1) ∧ 554 + 1 = 555 := by decide +kernel
theorem d_L_555 : decode YL.2.1 555 = .ok (.aload_n 0, 1) ∧ 555 + 1 = 556 := by decide +kernel
theorem d_L_556 : decode YL.2.1 556 = .ok (.iload_n 3, 1) ∧ 556 + 1 = 557 := by decide +kernel
theorem d_L_557 : decode YL.2.1 557 = .ok (.iconst 3, 1) ∧ 557 + 1 = 558 := by decide +kernel
theorem d_L_558 : decode YL.2.1 558 = .ok (.iadd, 1) ∧ 558 + 1 = 559 := by decide +kernel
theorem d_L_559 : decode YL.2.1 559 = .ok (.iaload, 1) ∧ 559 + 1 = 560 := by decide +kernel
theorem d_L_560 : decode YL.2.1 560 = .ok (.aload_n 0, 1) ∧ 560 + 1 = 561 := by decide +kernel
theorem d_L_561 : decode YL.2.1 561 = .ok (.iload_n 3, 1) ∧ 561 + 1 = 562 := by decide +kernel
theorem d_L_562 : decode YL.2.1 562 = .ok (.iconst 4, 1) ∧ 562 + 1 = 563 := by decide +kernel
theorem d_L_563 : decode YL.2.1 563 = .ok (.iadd, 1) ∧ 563 + 1 = 564 := by decide +kernel
theorem d_L_564 : decode YL.2.1 564 = .ok (.iaload, 1) ∧ 564 + 1 = 565 := by decide +kernel
theorem d_L_565 : decode YL.2.1 565 = .ok (.invokevirtual 42, 3) ∧ 565 + 3 = 568 := by decide +kernel
theorem d_L_568 : decode YL.2.1 568 = .ok (.pop, 1) ∧ 568 + 1 = 569 := by decide +kernel
theorem d_L_569 : decode YL.2.1 569 = .ok (.goto 2907, 3) ∧ ((569 : Nat) : Int) + 2907 = ((3476 : Nat) : Int) ∧ 569 + 3 = 572 := by decide +kernel
theorem d_L_572 : decode YL.2.1 572 = .ok (.aload_n 1, 1) ∧ 572 + 1 = 573 := by decide +kernel
theorem d_L_573 : decode YL.2.1 573 = .ok (.aload_n 0, 1) ∧ 573 + 1 = 574 := by decide +kernel
theorem d_L_574 : decode YL.2.1 574 = .ok (.iload_n 3, 1) ∧ 574 + 1 = 575 := by decide +kernel
theorem d_L_575 : decode YL.2.1 575 = .ok (.iconst 1, 1) ∧ 575 + 1 = 576 := by decide +kernel
theorem d_L_576 : decode YL.2.1 576 = .ok (.iadd, 1) ∧ 576 + 1 = 577 := by decide +kernel
theorem d_L_577 : decode YL.2.1 577 = .ok (.iaload, 1) ∧ 577 + 1 = 578 := by decide +kernel
theorem d_L_578 : decode YL.2.1 578 = .ok (.invokevirtual 43, 3) ∧ 578 + 3 = 581 := by decide +kernel
theorem d_L_581 : decode YL.2.1 581 = .ok (.pop, 1) ∧ 581 + 1 = 582 := by decide +kernel
theorem d_L_582 : decode YL.2.1 582 = .ok (.aload_n 2, 1) ∧ 582 + 1 = 583 := by decide +kernel
theorem d_L_583 : decode YL.2.1 583 = .ok (.aload_n 0, 1) ∧ 583 + 1 = 584 := by decide +kernel
theorem d_L_584 : decode YL.2.1 584 = .ok (.iload_n 3, 1) ∧ 584 + 1 = 585 := by decide +kernel
theorem d_L_585 : decode YL.2.1 585 = .ok (.iconst 1, 1) ∧ 585 + 1 = 586 := by decide +kernel
theorem d_L_586 : decode YL.2.1 586 = .ok (.iadd, 1) ∧ 586 + 1 = 587 := by decide +kernel
theorem d_L_587 : decode YL.2.1 587 = .ok (.iaload, 1) ∧ 587 + 1 = 588 := by decide +kernel
theorem d_L_588 : decode YL.2.1 588 = .ok (.invokevirtual 46, 3) ∧ 588 + 3 = 591 := by decide +kernel
theorem d_L_591 : decode YL.2.1 591 = .ok (.pop, 1) ∧ 591 + 1 = 592 := by decide +kernel
theorem d_L_592 : decode YL.2.1 592 = .ok (.goto 2884, 3) ∧ ((592 : Nat) : Int) + 2884 = ((3476 : Nat) : Int) ∧ 592 + 3 = 595 := by decide +kernel
theorem d_L_595 : decode YL.2.1 595 = .ok (.aload_n 1, 1) ∧ 595 + 1 = 596 := by decide +kernel
theorem d_L_596 : decode YL.2.1 596 = .ok (.aload_n 0, 1) ∧ 596 + 1 = 597 := by decide +kernel
theorem d_L_597 : decode YL.2.1 597 = .ok (.iload_n 3, 1) ∧ 597 + 1 = 598 := by decide +kernel
theorem d_L_598 : decode YL.2.1 598 = .ok (.iconst 1, 1) ∧ 598 + 1 = 599 := by decide +kernel
theorem d_L_599 : decode YL.2.1 599 = .ok (.iadd, 1) ∧ 599 + 1 = 600 := by decide +kernel
theorem d_L_600 : decode YL.2.1 600 = .ok (.iaload, 1) ∧ 600 + 1 = 601 := by decide +kernel
theorem d_L_601 : decode YL.2.1 601 = .ok (.aload_n 0, 1) ∧ 601 + 1 = 602 := by decide +kernel
theorem d_L_602 : decode YL.2.1 602 = .ok (.iload_n 3, 1) ∧ 602 + 1 = 603 := by decide +kernel
theorem d_L_603 : decode YL.2.1 603 = .ok (.iconst 2, 1) ∧ 603 + 1 = 604 := by decide +kernel
theorem d_L_604 : decode YL.2.1 604 = .ok (.iadd, 1) ∧ 604 + 1 = 605 := by decide +kernel
theorem d_L_605 : decode YL.2.1 605 = .ok (.iaload, 1) ∧ 605 + 1 = 606 := by decide +kernel
theorem d_L_606 : decode YL.2.1 606 = .ok (.aload_n 0, 1) ∧ 606 + 1 = 607 := by decide +kernel
theorem d_L_607 : decode YL.2.1 607 = .ok (.iload_n 3, 1) ∧ 607 + 1 = 608 := by decide +kernel
theorem d_L_608 : decode YL.2.1 608 = .ok (.iconst 3, 1) ∧ 608 + 1 = 609 := by decide +kernel
theorem d_L_609 : decode YL.2.1 609 = .ok (.iadd, 1) ∧ 609 + 1 = 610 := by decide +kernel
theorem d_L_610 : decode YL.2.1 610 = .ok (.iaload, 1) ∧ 610 + 1 = 611 := by decide +kernel
theorem d_L_611 : decode YL.2.1 611 = .ok (.aload_n 0, 1) ∧ 611 + 1 = 612 := by decide +kernel
theorem d_L_612 : decode YL.2.1 612 = .ok (.iload_n 3, 1) ∧ 612 + 1 = 613 := by decide +kernel
theorem d_L_613 : decode YL.2.1 613 = .ok (.iconst 4, 1) ∧ 613 + 1 = 614 := by decide +kernel
theorem d_L_614 : decode YL.2.1 614 = .ok (.iadd, 1) ∧ 614 + 1 = 615 := by decide +kernel
theorem d_L_615 : decode YL.2.1 615 = .ok (.iaload, 1) ∧ 615 + 1 = 616 := by decide +kernel
theorem d_L_616 : decode YL.2.1 616 = .ok (.invokevirtual 47, 3) ∧ 616 + 3 = 619 := by decide +kernel
theorem d_L_619 : decode YL.2.1 619 = .ok (.pop, 1) ∧ 619 + 1 = 620 := by decide +kernel
theorem d_L_620 : decode YL.2.1 620 = .ok (.aload_n 2, 1) ∧ 620 + 1 = 621 := by decide +kernel
theorem d_L_621 : decode YL.2.1 621 = .ok (.aload_n 0, 1) ∧ 621 + 1 = 622 := by decide +kernel
theorem d_L_622 : decode YL.2.1 622 = .ok (.iload_n 3, 1) ∧ 622 + 1 = 623 := by decide +kernel
theorem d_L_623 : decode YL.2.1 623 = .ok (.iconst 1, 1) ∧ 623 + 1 = 624 := by decide +kernel
theorem d_L_624 : decode YL.2.1 624 = .ok (.iadd, 1) ∧ 624 + 1 = 625 := by decide +kernel
theorem d_L_625 : decode YL.2.1 625 = .ok (.iaload, 1) ∧ 625 + 1 = 626 := by decide +kernel
theorem d_L_626 : decode YL.2.1 626 = .ok (.aload_n 0, 1) ∧ 626 + 1 = 627 := by decide +kernel
theorem d_L_627 : decode YL.2.1 627 = .ok (.iload_n 3, 1) ∧ 627 + 1 = 628 := by decide +kernel
theorem d_L_628 : decode YL.2.1 628 = .ok (.iconst 2, 1) ∧ 628 + 1 = 629 := by decide +kernel
theorem d_L_629 : decode YL.2.1 629 = .ok (.iadd, 1) ∧ 629 + 1 = 630 := by decide +kernel
theorem d_L_630 : decode YL.2.1 630 = .ok (.iaload, 1) ∧ 630 + 1 = 631 := by decide +kernel
theorem d_L_631 : decode YL.2.1 631 = .ok (.aload_n 0, 1) ∧ 631 + 1 = 632 := by decide +kernel
theorem d_L_632 : decode YL.2.1 632 = .ok (.iload_n 3, 1) ∧ 632 + 1 = 633 := by decide +kernel
theorem d_L_633 : decode YL.2.1 633 = .ok (.iconst 3, 1) ∧ 633 + 1 = 634 := by decide +kernel
theorem d_L_634 : decode YL.2.1 634 = .ok (.iadd, 1) ∧ 634 + 1 = 635 := by decide +kernel
theorem d_L_635 : decode YL.2.1 635 = .ok (.iaload, 1) ∧ 635 + 1 = 636 := by decide +kernel
theorem d_L_636 : decode YL.2.1 636 = .ok (.aload_n 0, 1) ∧ 636 + 1 = 637 := by decide +kernel
theorem d_L_637 : decode YL.2.1 637 = .ok (.iload_n 3, 1) ∧ 637 + 1 = 638 := by decide +kernel
theorem d_L_638 : decode YL.2.1 638 = .ok (.iconst 4, 1) ∧ 638 + 1 = 639 := by decide +kernel
theorem d_L_639 : decode YL.2.1 639 = .ok (.iadd, 1) ∧ 639 + 1 = 640 := by decide +kernel
theorem d_L_640 : decode YL.2.1 640 = .ok (.iaload, 1) ∧ 640 + 1 = 641 := by decide +kernel
theorem d_L_641 : decode YL.2.1 641 = .ok (.invokevirtual 50, 3) ∧ 641 + 3 = 644 := by decide +kernel
theorem d_L_644 : decode YL.2.1 644 = .ok (.pop, 1) ∧ 644 + 1 = 645 := by decide +kernel
theorem d_L_645 : decode YL.2.1 645 = .ok (.goto 2831, 3) ∧ ((645 : Nat) : Int) + 2831 = ((3476 : Nat) : Int) ∧ 645 + 3 = 648 := by decide +kernel
theorem d_L_648 : decode YL.2.1 648 = .ok (.aload_n 1, 1) ∧ 648 + 1 = 649 := by decide +kernel
theorem d_L_649 : decode YL.2.1 649 = .ok (.aload_n 0, 1) ∧ 649 + 1 = 650 := by decide +kernel
theorem d_L_650 : decode YL.2.1 650 = .ok (.iload_n 3, 1) ∧ 650 + 1 = 651 := by decide +kernel
theorem d_L_651 : decode YL.2.1 651 = .ok (.iconst 1, 1) ∧ 651 + 1 = 652 := by decide +kernel
theorem d_L_652 : decode YL.2.1 652 = .ok (.iadd, 1) ∧ 652 + 1 = 653 := by decide +kernel
theorem d_L_653 : decode YL.2.1 653 = .ok (.iaload, 1) ∧ 653 + 1 = 654 := by decide +kernel
theorem d_L_654 : decode YL.2.1 654 = .ok (.aload_n 0, 1) ∧ 654 + 1 = 655 := by decide +kernel
theorem d_L_655 : decode YL.2.1 655 = .ok (.iload_n 3, 1) ∧ 655 + 1 = 656 := by decide +kernel
theorem d_L_656 : decode YL.2.1 656 = .ok (.iconst 2, 1) ∧ 656 + 1 = 657 := by decide +kernel
theorem d_L_657 : decode YL.2.1 657 = .ok (.iadd, 1) ∧ 657 + 1 = 658 := by decide +kernel
theorem d_L_658 : decode YL.2.1 658 = .ok (.iaload, 1) ∧ 658 + 1 = 659 := by decide +kernel
theorem d_L_659 : decode YL.2.1 659 = .ok (.invokevirtual 51, 3) ∧ 659 + 3 = 662 := by decide +kernel
theorem d_L_662 : decode YL.2.1 662 = .ok (.pop, 1) ∧ 662 + 1 = 663 := by decide +kernel
theorem d_L_663 : decode YL.2.1 663 = .ok (.aload_n 2, 1) ∧ 663 + 1 = 664 := by decide +kernel
theorem d_L_664 : decode YL.2.1 664 = .ok (.aload_n 0, 1) ∧ 664 + 1 = 665 := by decide +kernel
theorem d_L_665 : decode YL.2.1 665 = .ok (.iload_n 3, 1) ∧ 665 + 1 = 666 := by decide +kernel
theorem d_L_666 : decode YL.2.1 666 = .ok (.iconst 1, 1) ∧ 666 + 1 = 667 := by decide +kernel
theorem d_L_667 : decode YL.2.1 667 = .ok (.iadd, 1) ∧ 667 + 1 = 668 := by decide +kernel
theorem d_L_668 : decode YL.2.1 668 = .ok (.iaload, 1) ∧ 668 + 1 = 669 := by decide +kernel
theorem d_L_669 : decode YL.2.1 669 = .ok (.aload_n 0, 1) ∧ 669 + 1 = 670 := by decide +kernel
theorem d_L_670 : decode YL.2.1 670 = .ok (.iload_n 3, 1) ∧ 670 + 1 = 671 := by decide +kernel
theorem d_L_671 : decode YL.2.1 671 = .ok (.iconst 2, 1) ∧ 671 + 1 = 672 := by decide +kernel
theorem d_L_672 : decode YL.2.1 672 = .ok (.iadd, 1) ∧ 672 + 1 = 673 := by decide +kernel
theorem d_L_673 : decode YL.2.1 673 = .ok (.iaload, 1) ∧ 673 + 1 = 674 := by decide +kernel
theorem d_L_674 : decode YL.2.1 674 = .ok (.invokevirtual 55, 3) ∧ 674 + 3 = 677 := by decide +kernel
theorem d_L_677 : decode YL.2.1 677 = .ok (.pop, 1) ∧ 677 + 1 = 678 := by decide +kernel
theorem d_L_678 : decode YL.2.1 678 = .ok (.goto 2798, 3) ∧ ((678 : Nat) : Int) + 2798 = ((3476 : Nat) : Int) ∧ 678 + 3 = 681 := by decide +kernel
theorem d_L_681 : decode YL.2.1 681 = .ok (.aload_n 1, 1) ∧ 681 + 1 = 682 := by decide +kernel
theorem d_L_682 : decode YL.2.1 682 = .ok (.aload_n 0, 1) ∧ 682 + 1 = 683 := by decide +kernel
theorem d_L_683 : decode YL.2.1 683 = .ok (.iload_n 3, 1) ∧ 683 + 1 = 684 := by decide +kernel
theorem d_L_684 : decode YL.2.1 684 = .ok (.iconst 1, 1) ∧ 684 + 1 = 685 := by decide +kernel
theorem d_L_685 : decode YL.2.1 685 = .ok (.iadd, 1) ∧ 685 + 1 = 686 := by decide +kernel
theorem d_L_686 : decode YL.2.1 686 = .ok (.iaload, 1) ∧ 686 + 1 = 687 := by decide +kernel
theorem d_L_687 : decode YL.2.1 687 = .ok (.aload_n 0, 1) ∧ 687 + 1 = 688 := by decide +kernel
theorem d_L_688 : decode YL.2.1 688 = .ok (.iload_n 3, 1) ∧ 688 + 1 = 689 := by decide +kernel
theorem d_L_689 : decode YL.2.1 689 = .ok (.iconst 2, 1) ∧ 689 + 1 = 690 := by decide +kernel
theorem d_L_690 : decode YL.2.1 690 = .ok (.iadd, 1) ∧ 690 + 1 = 691 := by decide +kernel
theorem d_L_691 : decode YL.2.1 691 = .ok (.iaload, 1) ∧ 691 + 1 = 692 := by decide +kernel
theorem d_L_692 : decode YL.2.1 692 = .ok (.aload_n 0, 1) ∧ 692 + 1 = 693 := by decide +kernel
theorem d_L_693 : decode YL.2.1 693 = .ok (.iload_n 3, 1) ∧ 693 + 1 = 694 := by decide +kernel
theorem d_L_694 : decode YL.2.1 694 = .ok (.iconst 3, 1) ∧ 694 + 1 = 695 := by decide +kernel
theorem d_L_695 : decode YL.2.1 695 = .ok (.iadd, 1) ∧ 695 + 1 = 696 := by decide +kernel
theorem d_L_696 : decode YL.2.1 696 = .ok (.iaload, 1) ∧ 696 + 1 = 697 := by decide +kernel
theorem d_L_697 : decode YL.2.1 697 = .ok (.aload_n 0, 1) ∧ 697 + 1 = 698 := by decide +kernel
theorem d_L_698 : decode YL.2.1 698 = .ok (.iload_n 3, 1) ∧ 698 + 1 = 699 := by decide +kernel
theorem d_L_699 : decode YL.2.1 699 = .ok (.iconst 4, 1) ∧ 699 + 1 = 700 := by decide +kernel
theorem d_L_700 : decode YL.2.1 700 = .ok (.iadd, 1) ∧ 700 + 1 = 701 := by decide +kernel
theorem d_L_701 : decode YL.2.1 701 = .ok (.iaload, 1) ∧ 701 + 1 = 702 := by decide +kernel
theorem d_L_702 : decode YL.2.1 702 = .ok (.invokevirtual 56, 3) ∧ 702 + 3 = 705 := by decide +kernel
theorem d_L_705 : decode YL.2.1 705 = .ok (.pop, 1) ∧ 705 + 1 = 706 := by decide +kernel
theorem d_L_706 : decode YL.2.1 706 = .ok (.aload_n 2, 1) ∧ 706 + 1 = 707 := by decide +kernel
theorem d_L_707 : decode YL.2.1 707 = .ok (.aload_n 0, 1) ∧ 707 + 1 = 708 := by decide +kernel
theorem d_L_708 : decode YL.2.1 708 = .ok (.iload_n 3, 1) ∧ 708 + 1 = 709 := by decide +kernel
theorem d_L_709 : decode YL.2.1 709 = .ok (.iconst 1, 1) ∧ 709 + 1 = 710 := by decide +kernel
theorem d_L_710 : decode YL.2.1 710 = .ok (.iadd, 1) ∧ 710 + 1 = 711 := by decide +kernel
theorem d_L_711 : decode YL.2.1 711 = .ok (.iaload, 1) ∧ 711 + 1 = 712 := by decide +kernel
theorem d_L_712 : decode YL.2.1 712 = .ok (.aload_n 0, 1) ∧ 712 + 1 = 713 := by decide +kernel
theorem d_L_713 : decode YL.2.1 713 = .ok (.iload_n 3, 1) ∧ 713 + 1 = 714 := by decide +kernel
theorem d_L_714 : decode YL.2.1 714 = .ok (.iconst 2, 1) ∧ 714 + 1 = 715 := by decide +kernel
theorem d_L_715 : decode YL.2.1 715 = .ok (.iadd, 1) ∧ 715 + 1 = 716 := by decide +kernel
theorem d_L_716 : decode YL.2.1 716 = .ok (.iaload, 1) ∧ 716 + 1 = 717 := by decide +kernel
theorem d_L_717 : decode YL.2.1 717 = .ok (.aload_n 0, 1) ∧ 717 + 1 = 718 := by decide +kernel
theorem d_L_718 : decode YL.2.1 718 = .ok (.iload_n 3, 1) ∧ 718 + 1 = 719 := by decide +kernel
theorem d_L_719 : decode YL.2.1 719 = .ok (.iconst 3, 1) ∧ 719 + 1 = 720 := by decide +kernel
theorem d_L_720 : decode YL.2.1 720 = .ok (.iadd, 1) ∧ 720 + 1 = 721 := by decide +kernel
theorem d_L_721 : decode YL.2.1 721 = .ok (.iaload, 1) ∧ 721 + 1 = 722 := by decide +kernel
theorem d_L_722 : decode YL.2.1 722 = .ok (.aload_n 0, 1) ∧ 722 + 1 = 723 := by decide +kernel
theorem d_L_723 : decode YL.2.1 723 = .ok (.iload_n 3, 1) ∧ 723 + 1 = 724 := by decide +kernel
theorem d_L_724 : decode YL.2.1 724 = .ok (.iconst 4, 1) ∧ 724 + 1 = 725 := by decide +kernel
theorem d_L_725 : decode YL.2.1 725 = .ok (.iadd, 1) ∧ 725 + 1 = 726 := by decide +kernel
theorem d_L_726 : decode YL.2.1 726 = .ok (.iaload, 1) ∧ 726 + 1 = 727 := by decide +kernel
theorem d_L_727 : decode YL.2.1 727 = .ok (.invokevirtual 59, 3) ∧ 727 + 3 = 730 := by decide +kernel
theorem d_L_730 : decode YL.2.1 730 = .ok (.pop, 1) ∧ 730 + 1 = 731 := by decide +kernel
theorem d_L_731 : decode YL.2.1 731 = .ok (.goto 2745, 3) ∧ ((731 : Nat) : Int) + 2745 = ((3476 : Nat) : Int) ∧ 731 + 3 = 734 := by decide +kernel
theorem d_L_734 : decode YL.2.1 734 = .ok (.aload_n 1, 1) ∧ 734 + 1 = 735 := by decide +kernel
theorem d_L_735 : decode YL.2.1 735 = .ok (.aload_n 0, 1) ∧ 735 + 1 = 736 := by decide +kernel
theorem d_L_736 : decode YL.2.1 736 = .ok (.iload_n 3, 1) ∧ 736 + 1 = 737 := by decide +kernel
theorem d_L_737 : decode YL.2.1 737 = .ok (.iconst 1, 1) ∧ 737 + 1 = 738 := by decide +kernel
theorem d_L_738 : decode YL.2.1 738 = .ok (.iadd, 1) ∧ 738 + 1 = 739 := by decide +kernel
theorem d_L_739 : decode YL.2.1 739 = .ok (.iaload, 1) ∧ 739 + 1 = 740 := by decide +kernel
theorem d_L_740 : decode YL.2.1 740 = .ok (.aload_n 0, 1) ∧ 740 + 1 = 741 := by decide +kernel
theorem d_L_741 : decode YL.2.1 741 = .ok (.iload_n 3, 1) ∧ 741 + 1 = 742 := by decide +kernel
theorem d_L_742 : decode YL.2.1 742 = .ok (.iconst 2, 1) ∧ 742 + 1 = 743 := by decide +kernel
theorem d_L_743 : decode YL.2.1 743 = .ok (.iadd, 1) ∧ 743 + 1 = 744 := by decide +kernel
theorem d_L_744 : decode YL.2.1 744 = .ok (.iaload, 1) ∧ 744 + 1 = 745 := by decide +kernel
theorem d_L_745 : decode YL.2.1 745 = .ok (.aload_n 0, 1) ∧ 745 + 1 = 746 := by decide +kernel
theorem d_L_746 : decode YL.2.1 746 = .ok (.iload_n 3, 1) ∧ 746 + 1 = 747 := by decide +kernel
theorem d_L_747 : decode YL.2.1 747 = .ok (.iconst 3, 1) ∧ 747 + 1 = 748 := by decide +kernel
theorem d_L_748 : decode YL.2.1 748 = .ok (.iadd, 1) ∧ 748 + 1 = 749 := by decide +kernel
theorem d_L_749 : decode YL.2.1 749 = .ok (.iaload, 1) ∧ 749 + 1 = 750 := by decide +kernel
theorem d_L_750 : decode YL.2.1 750 = .ok (.aload_n 0, 1) ∧ 750 + 1 = 751 := by decide +kernel
theorem d_L_751 : decode YL.2.1 751 = .ok (.iload_n 3, 1) ∧ 751 + 1 = 752 := by decide +kernel
theorem d_L_752 : decode YL.2.1 752 = .ok (.iconst 4, 1) ∧ 752 + 1 = 753 := by decide +kernel
theorem d_L_753 : decode YL.2.1 753 = .ok (.iadd, 1) ∧ 753 + 1 = 754 := by decide +kernel
theorem d_L_754 : decode YL.2.1 754 = .ok (.iaload, 1) ∧ 754 + 1 = 755 := by decide +kernel
theorem d_L_755 : decode YL.2.1 755 = .ok (.i2l, 1) ∧ 755 + 1 = 756 := by decide +kernel
theorem d_L_756 : decode YL.2.1 756 = .ok (.bipush 32, 2) ∧ 756 + 2 = 758 := by decide +kernel
theorem d_L_758 : decode YL.2.1 758 = .ok (.lshl, 1) ∧ 758 + 1 = 759 := by decide +kernel
theorem d_L_759 : decode YL.2.1 759 = .ok (.aload_n 0, 1) ∧ 759 + 1 = 760 := by decide +kernel
theorem d_L_760 : decode YL.2.1 760 = .ok (.iload_n 3, 1) ∧ 760 + 1 = 761 := by decide +kernel
theorem d_L_761 : decode YL.2.1 761 = .ok (.iconst 5, 1) ∧ 761 + 1 = 762 := by decide +kernel
theorem d_L_762 : decode YL.2.1 762 = .ok (.iadd, 1) ∧ 762 + 1 = 763 := by decide +kernel
theorem d_L_763 : decode YL.2.1 763 = .ok (.iaload, 1) ∧ 763 + 1 = 764 := by decide +kernel
theorem d_L_764 : decode YL.2.1 764 = .ok (.i2l, 1) ∧ 764 + 1 = 765 := by decide +kernel
theorem d_L_765 : decode YL.2.1 765 = .ok (.ldc2_w 13, 3) ∧ 765 + 3 = 768 := by decide +kernel
theorem d_L_768 : decode YL.2.1 768 = .ok (.land, 1) ∧ 768 + 1 = 769 := by decide +kernel
theorem d_L_769 : decode YL.2.1 769 = .ok (.lor, 1) ∧ 769 + 1 = 770 := by decide +kernel
theorem d_L_770 : decode YL.2.1 770 = .ok (.invokevirtual 60, 3) ∧ 770 + 3 = 773 := by decide +kernel
theorem d_L_773 : decode YL.2.1 773 = .ok (.pop, 1) ∧ 773 + 1 = 774 := by decide +kernel
theorem d_L_774 : decode YL.2.1 774 = .ok (.aload_n 2, 1) ∧ 774 + 1 = 775 := by decide +kernel
theorem d_L_775 : decode YL.2.1 775 = .ok (.aload_n 0, 1) ∧ 775 + 1 = 776 := by decide +kernel
theorem d_L_776 : decode YL.2.1 776 = .ok (.iload_n 3, 1) ∧ 776 + 1 = 777 := by decide +kernel
theorem d_L_777 : decode YL.2.1 777 = .ok (.iconst 1, 1) ∧ 777 + 1 = 778 := by decide +kernel
theorem d_L_778 : decode YL.2.1 778 = .ok (.iadd, 1) ∧ 778 + 1 = 779 := by decide +kernel
theorem d_L_779 : decode YL.2.1 779 = .ok (.iaload, 1) ∧ 779 + 1 = 780 := by decide +kernel
theorem d_L_780 : decode YL.2.1 780 = .ok (.aload_n 0, 1) ∧ 780 + 1 = 781 := by decide +kernel
theorem d_L_781 : decode YL.2.1 781 = .ok (.iload_n 3, 1) ∧ 781 + 1 = 782 := by decide +kernel
theorem d_L_782 : decode YL.2.1 782 = .ok (.iconst 2, 1) ∧ 782 + 1 = 783 := by decide +kernel
theorem d_L_783 : decode YL.2.1 783 = .ok (.iadd, 1) ∧ 783 + 1 = 784 := by decide +kernel
theorem d_L_784 : decode YL.2.1 784 = .ok (.iaload, 1) ∧ 784 + 1 = 785 := by decide +kernel
theorem d_L_785 : decode YL.2.1 785 = .ok (.aload_n 0, 1) ∧ 785 + 1 = 786 := by decide +kernel
theorem d_L_786 : decode YL.2.1 786 = .ok (.iload_n 3, 1) ∧ 786 + 1 = 787 := by decide +kernel
theorem d_L_787 : decode YL.2.1 787 = .ok (.iconst 3, 1) ∧ 787 + 1 = 788 := by decide +kernel
theorem d_L_788 : decode YL.2.1 788 = .ok (.iadd, 1) ∧ 788 + 1 = 789 := by decide +kernel
theorem d_L_789 : decode YL.2.1 789 = .ok (.iaload, 1) ∧ 789 + 1 = 790 := by decide +kernel
theorem d_L_790 : decode YL.2.1 790 = .ok (.aload_n 0, 1) ∧ 790 + 1 = 791 := by decide +kernel
theorem d_L_791 : decode YL.2.1 791 = .ok (.iload_n 3, 1) ∧ 791 + 1 = 792 := by decide +kernel
theorem d_L_792 : decode YL.2.1 792 = .ok (.iconst 4, 1) ∧ 792 + 1 = 793 := by decide +kernel
theorem d_L_793 : decode YL.2.1 793 = .ok (.iadd, 1) ∧ 793 + 1 = 794 := by decide +kernel
theorem d_L_794 : decode YL.2.1 794 = .ok (.iaload, 1) ∧ 794 + 1 = 795 := by decide +kernel
theorem d_L_795 : decode YL.2.1 795 = .ok (.i2l, 1) ∧ 795 + 1 = 796 := by decide +kernel
theorem d_L_796 : decode YL.2.1 796 = .ok (.bipush 32, 2) ∧ 796 + 2 = 798 := by decide +kernel
theorem d_L_798 : decode YL.2.1 798 = .ok (.lshl, 1) ∧ 798 + 1 = 799 := by decide +kernel
theorem d_L_799 : decode YL.2.1 799 = .ok (.aload_n 0, 1) ∧ 799 + 1 = 800 := by decide +kernel
theorem d_L_800 : decode YL.2.1 800 = .ok (.iload_n 3, 1) ∧ 800 + 1 = 801 := by decide +kernel
theorem d_L_801 : decode YL.2.1 801 = .ok (.iconst 5, 1) ∧ 801 + 1 = 802 := by decide +kernel
theorem d_L_802 : decode YL.2.1 802 = .ok (.iadd, 1) ∧ 802 + 1 = 803 := by decide +kernel
theorem d_L_803 : decode YL.2.1 803 = .ok (.iaload, 1) ∧ 803 + 1 = 804 := by decide +kernel
theorem d_L_804 : decode YL.2.1 804 = .ok (.i2l, 1) ∧ 804 + 1 = 805 := by decide +kernel
theorem d_L_805 : decode YL.2.1 805 = .ok (.ldc2_w 13, 3) ∧ 805 + 3 = 808 := by decide +kernel
theorem d_L_808 : decode YL.2.1 808 = .ok (.land, 1) ∧ 808 + 1 = 809 := by decide +kernel
theorem d_L_809 : decode YL.2.1 809 = .ok (.lor, 1) ∧ 809 + 1 = 810 := by decide +kernel
theorem d_L_810 : decode YL.2.1 810 = .ok (.invokevirtual 64, 3) ∧ 810 + 3 = 813 := by decide +kernel
theorem d_L_813 : decode YL.2.1 813 = .ok (.pop, 1) ∧ 813 + 1 = 814 := by decide +kernel
theorem d_L_814 : decode YL.2.1 814 = .ok (.goto 2662, 3) ∧ ((814 : Nat) : Int) + 2662 = ((3476 : Nat) : Int) ∧ 814 + 3 = 817 := by decide +kernel
theorem d_L_817 : decode YL.2.1 817 = .ok (.aload_n 1, 1) ∧ 817 + 1 = 818 := by decide +kernel
theorem d_L_818 : decode YL.2.1 818 = .ok (.aload_n 0, 1) ∧ 818 + 1 = 819 := by decide +kernel
theorem d_L_819 : decode YL.2.1 819 = .ok (.iload_n 3, 1) ∧ 819 + 1 = 820 := by decide +kernel
theorem d_L_820 : decode YL.2.1 820 = .ok (.iconst 1, 1) ∧ 820 + 1 = 821 := by decide +kernel
theorem d_L_821 : decode YL.2.1 821 = .ok (.iadd, 1) ∧ 821 + 1 = 822 := by decide +kernel
theorem d_L_822 : decode YL.2.1 822 = .ok (.iaload, 1) ∧ 822 + 1 = 823 := by decide +kernel
theorem d_L_823 : decode YL.2.1 823 = .ok (.aload_n 0, 1) ∧ 823 + 1 = 824 := by decide +kernel
theorem d_L_824 : decode YL.2.1 824 = .ok (.iload_n 3, 1) ∧ 824 + 1 = 825 := by decide +kernel
theorem d_L_825 : decode YL.2.1 825 = .ok (.iconst 2, 1) ∧ 825 + 1 = 826 := by decide +kernel
theorem d_L_826 : decode YL.2.1 826 = .ok (.iadd, 1) ∧ 826 + 1 = 827 := by decide +kernel
theorem d_L_827 : decode YL.2.1 827 = .ok (.iaload, 1) ∧ 827 + 1 = 828 := by decide +kernel
theorem d_L_828 : decode YL.2.1 828 = .ok (.aload_n 0, 1) ∧ 828 + 1 = 829 := by decide +kernel
theorem d_L_829 : decode YL.2.1 829 = .ok (.iload_n 3, 1) ∧ 829 + 1 = 830 := by decide +kernel
theorem d_L_830 : decode YL.2.1 830 = .ok (.iconst 3, 1) ∧ 830 + 1 = 831 := by decide +kernel
theorem d_L_831 : decode YL.2.1 831 = .ok (.iadd, 1) ∧ 831 + 1 = 832 := by decide +kernel
theorem d_L_832 : decode YL.2.1 832 = .ok (.iaload, 1) ∧ 832 + 1 = 833 := by decide +kernel
theorem d_L_833 : decode YL.2.1 833 = .ok (.aload_n 0, 1) ∧ 833 + 1 = 834 := by decide +kernel
theorem d_L_834 : decode YL.2.1 834 = .ok (.iload_n 3, 1) ∧ 834 + 1 = 835 := by decide +kernel
theorem d_L_835 : decode YL.2.1 835 = .ok (.iconst 4, 1) ∧ 835 + 1 = 836 := by decide +kernel
theorem d_L_836 : decode YL.2.1 836 = .ok (.iadd, 1) ∧ 836 + 1 = 837 := by decide +kernel
theorem d_L_837 : decode YL.2.1 837 = .ok (.iaload, 1) ∧ 837 + 1 = 838 := by decide +kernel
theorem d_L_838 : decode YL.2.1 838 = .ok (.invokevirtual 65, 3) ∧ 838 + 3 = 841 := by decide +kernel
theorem d_L_841 : decode YL.2.1 841 = .ok (.pop2, 1) ∧ 841 + 1 = 842 := by decide +kernel
theorem d_L_842 : decode YL.2.1 842 = .ok (.aload_n 2, 1) ∧ 842 + 1 = 843 := by decide +kernel
theorem d_L_843 : decode YL.2.1 843 = .ok (.aload_n 0, 1) ∧ 843 + 1 = 844 := by decide +kernel
theorem d_L_844 : decode YL.2.1 844 = .ok (.iload_n 3, 1) ∧ 844 + 1 = 845 := by decide +kernel
theorem d_L_845 : decode YL.2.1 845 = .ok (.iconst 1, 1) ∧ 845 + 1 = 846 := by decide +kernel
theorem d_L_846 : decode YL.2.1 846 = .ok (.iadd, 1) ∧ 846 + 1 = 847 := by decide +kernel
theorem d_L_847 : decode YL.2.1 847 = .ok (.iaload, 1) ∧ 847 + 1 = 848 := by decide +kernel
theorem d_L_848 : decode YL.2.1 848 = .ok (.aload_n 0, 1) ∧ 848 + 1 = 849 := by decide +kernel
theorem d_L_849 : decode YL.2.1 849 = .ok (.iload_n 3, 1) ∧ 849 + 1 = 850 := by decide +kernel
theorem d_L_850 : decode YL.2.1 850 = .ok (.iconst 2, 1) ∧ 850 + 1 = 851 := by decide +kernel
theorem d_L_851 : decode YL.2.1 851 = .ok (.iadd, 1) ∧ 851 + 1 = 852 := by decide +kernel
theorem d_L_852 : decode YL.2.1 852 = .ok (.iaload, 1) ∧ 852 + 1 = 853 := by decide +kernel
theorem d_L_853 : decode YL.2.1 853 = .ok (.aload_n 0, 1) ∧ 853 + 1 = 854 := by decide +kernel
theorem d_L_854 : decode YL.2.1 854 = .ok (.iload_n 3, 1) ∧ 854 + 1 = 855 := by decide +kernel
theorem d_L_855 : decode YL.2.1 855 = .ok (.iconst 3, 1) ∧ 855 + 1 = 856 := by decide +kernel
theorem d_L_856 : decode YL.2.1 856 = .ok (.iadd, 1) ∧ 856 + 1 = 857 := by decide +kernel
theorem d_L_857 : decode YL.2.1 857 = .ok (.iaload, 1) ∧ 857 + 1 = 858 := by decide +kernel
theorem d_L_858 : decode YL.2.1 858 = .ok (.aload_n 0, 1) ∧ 858 + 1 = 859 := by decide +kernel
theorem d_L_859 : decode YL.2.1 859 = .ok (.iload_n 3, 1) ∧ 859 + 1 = 860 := by decide +kernel
theorem d_L_860 : decode YL.2.1 860 = .ok (.iconst 4, 1) ∧ 860 + 1 = 861 := by decide +kernel
theorem d_L_861 : decode YL.2.1 861 = .ok (.iadd, 1) ∧ 861 + 1 = 862 := by decide +kernel
theorem d_L_862 : decode YL.2.1 862 = .ok (.iaload, 1) ∧ 862 + 1 = 863 := by decide +kernel
theorem d_L_863 : decode YL.2.1 863 = .ok (.invokevirtual 69, 3) ∧ 863 + 3 = 866 := by decide +kernel
theorem d_L_866 : decode YL.2.1 866 = .ok (.pop2, 1) ∧ 866 + 1 = 867 := by decide +kernel
theorem d_L_867 : decode YL.2.1 867 = .ok (.goto 2609, 3) ∧ ((867 : Nat) : Int) + 2609 = ((3476 : Nat) : Int) ∧ 867 + 3 = 870 := by decide +kernel
theorem d_L_870 : decode YL.2.1 870 = .ok (.aload_n 1, 1) ∧ 870 + 1 = 871 := by decide +kernel
theorem d_L_871 : decode YL.2.1 871 = .ok (.aload_n 0, 1) ∧ 871 + 1 = 872 := by decide +kernel
theorem d_L_872 : decode YL.2.1 872 = .ok (.iload_n 3, 1) ∧ 872 + 1 = 873 := by decide +kernel
theorem d_L_873 : decode YL.2.1 873 = .ok (.iconst 1, 1) ∧ 873 + 1 = 874 := by decide +kernel
theorem d_L_874 : decode YL.2.1 874 = .ok (.iadd, 1) ∧ 874 + 1 = 875 := by decide +kernel
theorem d_L_875 : decode YL.2.1 875 = .ok (.iaload, 1) ∧ 875 + 1 = 876 := by decide +kernel
