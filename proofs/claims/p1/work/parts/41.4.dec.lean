theorem d_L_2432 : decode YL.2.1 2432 = .ok (.iload_n 3, 1) ∧ 2432 + 1 = 2433 := by decide +kernel
theorem d_L_2433 : decode YL.2.1 2433 = .ok (.iconst 2, 1) ∧ 2433 + 1 = 2434 := by decide +kernel
theorem d_L_2434 : decode YL.2.1 2434 = .ok (.iadd, 1) ∧ 2434 + 1 = 2435 := by decide +kernel
theorem d_L_2435 : decode YL.2.1 2435 = .ok (.iaload, 1) ∧ 2435 + 1 = 2436 := by decide +kernel
theorem d_L_2436 : decode YL.2.1 2436 = .ok (.aload_n 0, 1) ∧ 2436 + 1 = 2437 := by decide +kernel
theorem d_L_2437 : decode YL.2.1 2437 = .ok (.iload_n 3, 1) ∧ 2437 + 1 = 2438 := by decide +kernel
theorem d_L_2438 : decode YL.2.1 2438 = .ok (.iconst 3, 1) ∧ 2438 + 1 = 2439 := by decide +kernel
theorem d_L_2439 : decode YL.2.1 2439 = .ok (.iadd, 1) ∧ 2439 + 1 = 2440 := by decide +kernel
theorem d_L_2440 : decode YL.2.1 2440 = .ok (.iaload, 1) ∧ 2440 + 1 = 2441 := by decide +kernel
theorem d_L_2441 : decode YL.2.1 2441 = .ok (.aload_n 0, 1) ∧ 2441 + 1 = 2442 := by decide +kernel
theorem d_L_2442 : decode YL.2.1 2442 = .ok (.iload_n 3, 1) ∧ 2442 + 1 = 2443 := by decide +kernel
theorem d_L_2443 : decode YL.2.1 2443 = .ok (.iconst 4, 1) ∧ 2443 + 1 = 2444 := by decide +kernel
theorem d_L_2444 : decode YL.2.1 2444 = .ok (.iadd, 1) ∧ 2444 + 1 = 2445 := by decide +kernel
theorem d_L_2445 : decode YL.2.1 2445 = .ok (.iaload, 1) ∧ 2445 + 1 = 2446 := by decide +kernel
theorem d_L_2446 : decode YL.2.1 2446 = .ok (.invokevirtual 238, 3) ∧ 2446 + 3 = 2449 := by decide +kernel
theorem d_L_2449 : decode YL.2.1 2449 = .ok (.if_icmp .eq 1030, 3) ∧ ((2449 : Nat) : Int) + 1030 = ((3479 : Nat) : Int) ∧ 2449 + 3 = 2452 := by decide +kernel
theorem d_L_2452 : decode YL.2.1 2452 = .ok (.iconst 0, 1) ∧ 2452 + 1 = 2453 := by decide +kernel
theorem d_L_2453 : decode YL.2.1 2453 = .ok (.ireturn, 1) := by decide +kernel
theorem d_L_2454 : decode YL.2.1 2454 = .ok (.aload_n 1, 1) ∧ 2454 + 1 = 2455 := by decide +kernel
theorem d_L_2455 : decode YL.2.1 2455 = .ok (.aload_n 0, 1) ∧ 2455 + 1 = 2456 := by decide +kernel
theorem d_L_2456 : decode YL.2.1 2456 = .ok (.iload_n 3, 1) ∧ 2456 + 1 = 2457 := by decide +kernel
theorem d_L_2457 : decode YL.2.1 2457 = .ok (.iconst 1, 1) ∧ 2457 + 1 = 2458 := by decide +kernel
theorem d_L_2458 : decode YL.2.1 2458 = .ok (.iadd, 1) ∧ 2458 + 1 = 2459 := by decide +kernel
theorem d_L_2459 : decode YL.2.1 2459 = .ok (.iaload, 1) ∧ 2459 + 1 = 2460 := by decide +kernel
theorem d_L_2460 : decode YL.2.1 2460 = .ok (.invokevirtual 239, 3) ∧ 2460 + 3 = 2463 := by decide +kernel
theorem d_L_2463 : decode YL.2.1 2463 = .ok (.aload_n 2, 1) ∧ 2463 + 1 = 2464 := by decide +kernel
theorem d_L_2464 : decode YL.2.1 2464 = .ok (.aload_n 0, 1) ∧ 2464 + 1 = 2465 := by decide +kernel
theorem d_L_2465 : decode YL.2.1 2465 = .ok (.iload_n 3, 1) ∧ 2465 + 1 = 2466 := by decide +kernel
theorem d_L_2466 : decode YL.2.1 2466 = .ok (.iconst 1, 1) ∧ 2466 + 1 = 2467 := by decide +kernel
theorem d_L_2467 : decode YL.2.1 2467 = .ok (.iadd, 1) ∧ 2467 + 1 = 2468 := by decide +kernel
theorem d_L_2468 : decode YL.2.1 2468 = .ok (.iaload, 1) ∧ 2468 + 1 = 2469 := by decide +kernel
theorem d_L_2469 : decode YL.2.1 2469 = .ok (.invokevirtual 242, 3) ∧ 2469 + 3 = 2472 := by decide +kernel
theorem d_L_2472 : decode YL.2.1 2472 = .ok (.if_icmp .eq 1007, 3) ∧ ((2472 : Nat) : Int) + 1007 = ((3479 : Nat) : Int) ∧ 2472 + 3 = 2475 := by decide +kernel
theorem d_L_2475 : decode YL.2.1 2475 = .ok (.iconst 0, 1) ∧ 2475 + 1 = 2476 := by decide +kernel
theorem d_L_2476 : decode YL.2.1 2476 = .ok (.ireturn, 1) := by decide +kernel
theorem d_L_2477 : decode YL.2.1 2477 = .ok (.aload_n 1, 1) ∧ 2477 + 1 = 2478 := by decide +kernel
theorem d_L_2478 : decode YL.2.1 2478 = .ok (.aload_n 0, 1) ∧ 2478 + 1 = 2479 := by decide +kernel
theorem d_L_2479 : decode YL.2.1 2479 = .ok (.iload_n 3, 1) ∧ 2479 + 1 = 2480 := by decide +kernel
theorem d_L_2480 : decode YL.2.1 2480 = .ok (.iconst 1, 1) ∧ 2480 + 1 = 2481 := by decide +kernel
theorem d_L_2481 : decode YL.2.1 2481 = .ok (.iadd, 1) ∧ 2481 + 1 = 2482 := by decide +kernel
theorem d_L_2482 : decode YL.2.1 2482 = .ok (.iaload, 1) ∧ 2482 + 1 = 2483 := by decide +kernel
theorem d_L_2483 : decode YL.2.1 2483 = .ok (.aload_n 0, 1) ∧ 2483 + 1 = 2484 := by decide +kernel
theorem d_L_2484 : decode YL.2.1 2484 = .ok (.iload_n 3, 1) ∧ 2484 + 1 = 2485 := by decide +kernel
theorem d_L_2485 : decode YL.2.1 2485 = .ok (.iconst 2, 1) ∧ 2485 + 1 = 2486 := by decide +kernel
theorem d_L_2486 : decode YL.2.1 2486 = .ok (.iadd, 1) ∧ 2486 + 1 = 2487 := by decide +kernel
theorem d_L_2487 : decode YL.2.1 2487 = .ok (.iaload, 1) ∧ 2487 + 1 = 2488 := by decide +kernel
theorem d_L_2488 : decode YL.2.1 2488 = .ok (.aload_n 0, 1) ∧ 2488 + 1 = 2489 := by decide +kernel
theorem d_L_2489 : decode YL.2.1 2489 = .ok (.iload_n 3, 1) ∧ 2489 + 1 = 2490 := by decide +kernel
theorem d_L_2490 : decode YL.2.1 2490 = .ok (.iconst 3, 1) ∧ 2490 + 1 = 2491 := by decide +kernel
theorem d_L_2491 : decode YL.2.1 2491 = .ok (.iadd, 1) ∧ 2491 + 1 = 2492 := by decide +kernel
theorem d_L_2492 : decode YL.2.1 2492 = .ok (.iaload, 1) ∧ 2492 + 1 = 2493 := by decide +kernel
theorem d_L_2493 : decode YL.2.1 2493 = .ok (.invokevirtual 243, 3) ∧ 2493 + 3 = 2496 := by decide +kernel
theorem d_L_2496 : decode YL.2.1 2496 = .ok (.aload_n 2, 1) ∧ 2496 + 1 = 2497 := by decide +kernel
theorem d_L_2497 : decode YL.2.1 2497 = .ok (.aload_n 0, 1) ∧ 2497 + 1 = 2498 := by decide +kernel
theorem d_L_2498 : decode YL.2.1 2498 = .ok (.iload_n 3, 1) ∧ 2498 + 1 = 2499 := by decide +kernel
theorem d_L_2499 : decode YL.2.1 2499 = .ok (.iconst 1, 1) ∧ 2499 + 1 = 2500 := by decide +kernel
theorem d_L_2500 : decode YL.2.1 2500 = .ok (.iadd, 1) ∧ 2500 + 1 = 2501 := by decide +kernel
theorem d_L_2501 : decode YL.2.1 2501 = .ok (.iaload, 1) ∧ 2501 + 1 = 2502 := by decide +kernel
theorem d_L_2502 : decode YL.2.1 2502 = .ok (.aload_n 0, 1) ∧ 2502 + 1 = 2503 := by decide +kernel
theorem d_L_2503 : decode YL.2.1 2503 = .ok (.iload_n 3, 1) ∧ 2503 + 1 = 2504 := by decide +kernel
theorem d_L_2504 : decode YL.2.1 2504 = .ok (.iconst 2, 1) ∧ 2504 + 1 = 2505 := by decide +kernel
theorem d_L_2505 : decode YL.2.1 2505 = .ok (.iadd, 1) ∧ 2505 + 1 = 2506 := by decide +kernel
theorem d_L_2506 : decode YL.2.1 2506 = .ok (.iaload, 1) ∧ 2506 + 1 = 2507 := by decide +kernel
theorem d_L_2507 : decode YL.2.1 2507 = .ok (.aload_n 0, 1) ∧ 2507 + 1 = 2508 := by decide +kernel
theorem d_L_2508 : decode YL.2.1 2508 = .ok (.iload_n 3, 1) ∧ 2508 + 1 = 2509 := by decide +kernel
theorem d_L_2509 : decode YL.2.1 2509 = .ok (.iconst 3, 1) ∧ 2509 + 1 = 2510 := by decide +kernel
theorem d_L_2510 : decode YL.2.1 2510 = .ok (.iadd, 1) ∧ 2510 + 1 = 2511 := by decide +kernel
theorem d_L_2511 : decode YL.2.1 2511 = .ok (.iaload, 1) ∧ 2511 + 1 = 2512 := by decide +kernel
theorem d_L_2512 : decode YL.2.1 2512 = .ok (.invokevirtual 246, 3) ∧ 2512 + 3 = 2515 := by decide +kernel
theorem d_L_2515 : decode YL.2.1 2515 = .ok (.if_icmp .eq 964, 3) ∧ ((2515 : Nat) : Int) + 964 = ((3479 : Nat) : Int) ∧ 2515 + 3 = 2518 := by decide +kernel
theorem d_L_2518 : decode YL.2.1 2518 = .ok (.iconst 0, 1) ∧ 2518 + 1 = 2519 := by decide +kernel
theorem d_L_2519 : decode YL.2.1 2519 = .ok (.ireturn, 1) := by decide +kernel
theorem d_L_2520 : decode YL.2.1 2520 = .ok (.aload_n 1, 1) ∧ 2520 + 1 = 2521 := by decide +kernel
theorem d_L_2521 : decode YL.2.1 2521 = .ok (.aload_n 0, 1) ∧ 2521 + 1 = 2522 := by decide +kernel
theorem d_L_2522 : decode YL.2.1 2522 = .ok (.iload_n 3, 1) ∧ 2522 + 1 = 2523 := by decide +kernel
theorem d_L_2523 : decode YL.2.1 2523 = .ok (.iconst 1, 1) ∧ 2523 + 1 = 2524 := by decide +kernel
theorem d_L_2524 : decode YL.2.1 2524 = .ok (.iadd, 1) ∧ 2524 + 1 = 2525 := by decide +kernel
theorem d_L_2525 : decode YL.2.1 2525 = .ok (.iaload, 1) ∧ 2525 + 1 = 2526 := by decide +kernel
theorem d_L_2526 : decode YL.2.1 2526 = .ok (.aload_n 0, 1) ∧ 2526 + 1 = 2527 := by decide +kernel
theorem d_L_2527 : decode YL.2.1 2527 = .ok (.iload_n 3, 1) ∧ 2527 + 1 = 2528 := by decide +kernel
theorem d_L_2528 : decode YL.2.1 2528 = .ok (.iconst 2, 1) ∧ 2528 + 1 = 2529 := by decide +kernel
theorem d_L_2529 : decode YL.2.1 2529 = .ok (.iadd, 1) ∧ 2529 + 1 = 2530 := by decide +kernel
theorem d_L_2530 : decode YL.2.1 2530 = .ok (.iaload, 1) ∧ 2530 + 1 = 2531 := by decide +kernel
theorem d_L_2531 : decode YL.2.1 2531 = .ok (.invokevirtual 247, 3) ∧ 2531 + 3 = 2534 := by decide +kernel
theorem d_L_2534 : decode YL.2.1 2534 = .ok (.aload_n 2, 1) ∧ 2534 + 1 = 2535 := by decide +kernel
theorem d_L_2535 : decode YL.2.1 2535 = .ok (.aload_n 0, 1) ∧ 2535 + 1 = 2536 := by decide +kernel
theorem d_L_2536 : decode YL.2.1 2536 = .ok (.iload_n 3, 1) ∧ 2536 + 1 = 2537 := by decide +kernel
theorem d_L_2537 : decode YL.2.1 2537 = .ok (.iconst 1, 1) ∧ 2537 + 1 = 2538 := by decide +kernel
theorem d_L_2538 : decode YL.2.1 2538 = .ok (.iadd, 1) ∧ 2538 + 1 = 2539 := by decide +kernel
theorem d_L_2539 : decode YL.2.1 2539 = .ok (.iaload, 1) ∧ 2539 + 1 = 2540 := by decide +kernel
theorem d_L_2540 : decode YL.2.1 2540 = .ok (.aload_n 0, 1) ∧ 2540 + 1 = 2541 := by decide +kernel
theorem d_L_2541 : decode YL.2.1 2541 = .ok (.iload_n 3, 1) ∧ 2541 + 1 = 2542 := by decide +kernel
theorem d_L_2542 : decode YL.2.1 2542 = .ok (.iconst 2, 1) ∧ 2542 + 1 = 2543 := by decide +kernel
theorem d_L_2543 : decode YL.2.1 2543 = .ok (.iadd, 1) ∧ 2543 + 1 = 2544 := by decide +kernel
theorem d_L_2544 : decode YL.2.1 2544 = .ok (.iaload, 1) ∧ 2544 + 1 = 2545 := by decide +kernel
theorem d_L_2545 : decode YL.2.1 2545 = .ok (.invokevirtual 250, 3) ∧ 2545 + 3 = 2548 := by decide +kernel
theorem d_L_2548 : decode YL.2.1 2548 = .ok (.if_icmp .eq 931, 3) ∧ ((2548 : Nat) : Int) + 931 = ((3479 : Nat) : Int) ∧ 2548 + 3 = 2551 := by decide +kernel
theorem d_L_2551 : decode YL.2.1 2551 = .ok (.iconst 0, 1) ∧ 2551 + 1 = 2552 := by decide +kernel
theorem d_L_2552 : decode YL.2.1 2552 = .ok (.ireturn, 1) := by decide +kernel
theorem d_L_2553 : decode YL.2.1 2553 = .ok (.aload_n 1, 1) ∧ 2553 + 1 = 2554 := by decide +kernel
theorem d_L_2554 : decode YL.2.1 2554 = .ok (.aload_n 0, 1) ∧ 2554 + 1 = 2555 := by decide +kernel
theorem d_L_2555 : decode YL.2.1 2555 = .ok (.iload_n 3, 1) ∧ 2555 + 1 = 2556 := by decide +kernel
theorem d_L_2556 : decode YL.2.1 2556 = .ok (.iconst 1, 1) ∧ 2556 + 1 = 2557 := by decide +kernel
theorem d_L_2557 : decode YL.2.1 2557 = .ok (.iadd, 1) ∧ 2557 + 1 = 2558 := by decide +kernel
theorem d_L_2558 : decode YL.2.1 2558 = .ok (.iaload, 1) ∧ 2558 + 1 = 2559 := by decide +kernel
theorem d_L_2559 : decode YL.2.1 2559 = .ok (.aload_n 0, 1) ∧ 2559 + 1 = 2560 := by decide +kernel
theorem d_L_2560 : decode YL.2.1 2560 = .ok (.iload_n 3, 1) ∧ 2560 + 1 = 2561 := by decide +kernel
theorem d_L_2561 : decode YL.2.1 2561 = .ok (.iconst 2, 1) ∧ 2561 + 1 = 2562 := by decide +kernel
theorem d_L_2562 : decode YL.2.1 2562 = .ok (.iadd, 1) ∧ 2562 + 1 = 2563 := by decide +kernel
theorem d_L_2563 : decode YL.2.1 2563 = .ok (.iaload, 1) ∧ 2563 + 1 = 2564 := by decide +kernel
theorem d_L_2564 : decode YL.2.1 2564 = .ok (.aload_n 0, 1) ∧ 2564 + 1 = 2565 := by decide +kernel
theorem d_L_2565 : decode YL.2.1 2565 = .ok (.iload_n 3, 1) ∧ 2565 + 1 = 2566 := by decide +kernel
theorem d_L_2566 : decode YL.2.1 2566 = .ok (.iconst 3, 1) ∧ 2566 + 1 = 2567 := by decide +kernel
theorem d_L_2567 : decode YL.2.1 2567 = .ok (.iadd, 1) ∧ 2567 + 1 = 2568 := by decide +kernel
theorem d_L_2568 : decode YL.2.1 2568 = .ok (.iaload, 1) ∧ 2568 + 1 = 2569 := by decide +kernel
theorem d_L_2569 : decode YL.2.1 2569 = .ok (.invokevirtual 251, 3) ∧ 2569 + 3 = 2572 := by decide +kernel
theorem d_L_2572 : decode YL.2.1 2572 = .ok (.aload_n 2, 1) ∧ 2572 + 1 = 2573 := by decide +kernel
theorem d_L_2573 : decode YL.2.1 2573 = .ok (.aload_n 0, 1) ∧ 2573 + 1 = 2574 := by decide +kernel
theorem d_L_2574 : decode YL.2.1 2574 = .ok (.iload_n 3, 1) ∧ 2574 + 1 = 2575 := by decide +kernel
theorem d_L_2575 : decode YL.2.1 2575 = .ok (.iconst 1, 1) ∧ 2575 + 1 = 2576 := by decide +kernel
theorem d_L_2576 : decode YL.2.1 2576 = .ok (.iadd, 1) ∧ 2576 + 1 = 2577 := by decide +kernel
theorem d_L_2577 : decode YL.2.1 2577 = .ok (.iaload, 1) ∧ 2577 + 1 = 2578 := by decide +kernel
theorem d_L_2578 : decode YL.2.1 2578 = .ok (.aload_n 0, 1) ∧ 2578 + 1 = 2579 := by decide +kernel
theorem d_L_2579 : decode YL.2.1 2579 = .ok (.iload_n 3, 1) ∧ 2579 + 1 = 2580 := by decide +kernel
theorem d_L_2580 : decode YL.2.1 2580 = .ok (.iconst 2, 1) ∧ 2580 + 1 = 2581 := by decide +kernel
theorem d_L_2581 : decode YL.2.1 2581 = .ok (.iadd, 1) ∧ 2581 + 1 = 2582 := by decide +kernel
theorem d_L_2582 : decode YL.2.1 2582 = .ok (.iaload, 1) ∧ 2582 + 1 = 2583 := by decide +kernel
theorem d_L_2583 : decode YL.2.1 2583 = .ok (.aload_n 0, 1) ∧ 2583 + 1 = 2584 := by decide +kernel
theorem d_L_2584 : decode YL.2.1 2584 = .ok (.iload_n 3, 1) ∧ 2584 + 1 = 2585 := by decide +kernel
theorem d_L_2585 : decode YL.2.1 2585 = .ok (.iconst 3, 1) ∧ 2585 + 1 = 2586 := by decide +kernel
theorem d_L_2586 : decode YL.2.1 2586 = .ok (.iadd, 1) ∧ 2586 + 1 = 2587 := by decide +kernel
theorem d_L_2587 : decode YL.2.1 2587 = .ok (.iaload, 1) ∧ 2587 + 1 = 2588 := by decide +kernel
theorem d_L_2588 : decode YL.2.1 2588 = .ok (.invokevirtual 254, 3) ∧ 2588 + 3 = 2591 := by decide +kernel
theorem d_L_2591 : decode YL.2.1 2591 = .ok (.if_icmp .eq 888, 3) ∧ ((2591 : Nat) : Int) + 888 = ((3479 : Nat) : Int) ∧ 2591 + 3 = 2594 := by decide +kernel
theorem d_L_2594 : decode YL.2.1 2594 = .ok (.iconst 0, 1) ∧ 2594 + 1 = 2595 := by decide +kernel
theorem d_L_2595 : decode YL.2.1 2595 = .ok (.ireturn, 1) := by decide +kernel
theorem d_L_2596 : decode YL.2.1 2596 = .ok (.aload_n 1, 1) ∧ 2596 + 1 = 2597 := by decide +kernel
theorem d_L_2597 : decode YL.2.1 2597 = .ok (.aload_n 0, 1) ∧ 2597 + 1 = 2598 := by decide +kernel
theorem d_L_2598 : decode YL.2.1 2598 = .ok (.iload_n 3, 1) ∧ 2598 + 1 = 2599 := by decide +kernel
theorem d_L_2599 : decode YL.2.1 2599 = .ok (.iconst 1, 1) ∧ 2599 + 1 = 2600 := by decide +kernel
theorem d_L_2600 : decode YL.2.1 2600 = .ok (.iadd, 1) ∧ 2600 + 1 = 2601 := by decide +kernel
theorem d_L_2601 : decode YL.2.1 2601 = .ok (.iaload, 1) ∧ 2601 + 1 = 2602 := by decide +kernel
theorem d_L_2602 : decode YL.2.1 2602 = .ok (.aload_n 0, 1) ∧ 2602 + 1 = 2603 := by decide +kernel
theorem d_L_2603 : decode YL.2.1 2603 = .ok (.iload_n 3, 1) ∧ 2603 + 1 = 2604 := by decide +kernel
theorem d_L_2604 : decode YL.2.1 2604 = .ok (.iconst 2, 1) ∧ 2604 + 1 = 2605 := by decide +kernel
theorem d_L_2605 : decode YL.2.1 2605 = .ok (.iadd, 1) ∧ 2605 + 1 = 2606 := by decide +kernel
theorem d_L_2606 : decode YL.2.1 2606 = .ok (.iaload, 1) ∧ 2606 + 1 = 2607 := by decide +kernel
theorem d_L_2607 : decode YL.2.1 2607 = .ok (.aload_n 0, 1) ∧ 2607 + 1 = 2608 := by decide +kernel
theorem d_L_2608 : decode YL.2.1 2608 = .ok (.iload_n 3, 1) ∧ 2608 + 1 = 2609 := by decide +kernel
theorem d_L_2609 : decode YL.2.1 2609 = .ok (.iconst 3, 1) ∧ 2609 + 1 = 2610 := by decide +kernel
theorem d_L_2610 : decode YL.2.1 2610 = .ok (.iadd, 1) ∧ 2610 + 1 = 2611 := by decide +kernel
theorem d_L_2611 : decode YL.2.1 2611 = .ok (.iaload, 1) ∧ 2611 + 1 = 2612 := by decide +kernel
theorem d_L_2612 : decode YL.2.1 2612 = .ok (.invokevirtual 255, 3) ∧ 2612 + 3 = 2615 := by decide +kernel
theorem d_L_2615 : decode YL.2.1 2615 = .ok (.aload_n 2, 1) ∧ 2615 + 1 = 2616 := by decide +kernel
theorem d_L_2616 : decode YL.2.1 2616 = .ok (.aload_n 0, 1) ∧ 2616 + 1 = 2617 := by decide +kernel
theorem d_L_2617 : decode YL.2.1 2617 = .ok (.iload_n 3, 1) ∧ 2617 + 1 = 2618 := by decide +kernel
theorem d_L_2618 : decode YL.2.1 2618 = .ok (.iconst 1, 1) ∧ 2618 + 1 = 2619 := by decide +kernel
theorem d_L_2619 : decode YL.2.1 2619 = .ok (.iadd, 1) ∧ 2619 + 1 = 2620 := by decide +kernel
theorem d_L_2620 : decode YL.2.1 2620 = .ok (.iaload, 1) ∧ 2620 + 1 = 2621 := by decide +kernel
theorem d_L_2621 : decode YL.2.1 2621 = .ok (.aload_n 0, 1) ∧ 2621 + 1 = 2622 := by decide +kernel
theorem d_L_2622 : decode YL.2.1 2622 = .ok (.iload_n 3, 1) ∧ 2622 + 1 = 2623 := by decide +kernel
theorem d_L_2623 : decode YL.2.1 2623 = .ok (.iconst 2, 1) ∧ 2623 + 1 = 2624 := by decide +kernel
theorem d_L_2624 : decode YL.2.1 2624 = .ok (.iadd, 1) ∧ 2624 + 1 = 2625 := by decide +kernel
theorem d_L_2625 : decode YL.2.1 2625 = .ok (.iaload, 1) ∧ 2625 + 1 = 2626 := by decide +kernel
theorem d_L_2626 : decode YL.2.1 2626 = .ok (.aload_n 0, 1) ∧ 2626 + 1 = 2627 := by decide +kernel
theorem d_L_2627 : decode YL.2.1 2627 = .ok (.iload_n 3, 1) ∧ 2627 + 1 = 2628 := by decide +kernel
theorem d_L_2628 : decode YL.2.1 2628 = .ok (.iconst 3, 1) ∧ 2628 + 1 = 2629 := by decide +kernel
theorem d_L_2629 : decode YL.2.1 2629 = .ok (.iadd, 1) ∧ 2629 + 1 = 2630 := by decide +kernel
theorem d_L_2630 : decode YL.2.1 2630 = .ok (.iaload, 1) ∧ 2630 + 1 = 2631 := by decide +kernel
theorem d_L_2631 : decode YL.2.1 2631 = .ok (.invokevirtual 258, 3) ∧ 2631 + 3 = 2634 := by decide +kernel
theorem d_L_2634 : decode YL.2.1 2634 = .ok (.if_icmp .eq 845, 3) ∧ ((2634 : Nat) : Int) + 845 = ((3479 : Nat) : Int) ∧ 2634 + 3 = 2637 := by decide +kernel
theorem d_L_2637 : decode YL.2.1 2637 = .ok (.iconst 0, 1) ∧ 2637 + 1 = 2638 := by decide +kernel
theorem d_L_2638 : decode YL.2.1 2638 = .ok (.ireturn, 1) := by decide +kernel
theorem d_L_2639 : decode YL.2.1 2639 = .ok (.aload_n 1, 1) ∧ 2639 + 1 = 2640 := by decide +kernel
theorem d_L_2640 : decode YL.2.1 2640 = .ok (.aload_n 0, 1) ∧ 2640 + 1 = 2641 := by decide +kernel
theorem d_L_2641 : decode YL.2.1 2641 = .ok (.iload_n 3, 1) ∧ 2641 + 1 = 2642 := by decide +kernel
theorem d_L_2642 : decode YL.2.1 2642 = .ok (.iconst 1, 1) ∧ 2642 + 1 = 2643 := by decide +kernel
theorem d_L_2643 : decode YL.2.1 2643 = .ok (.iadd, 1) ∧ 2643 + 1 = 2644 := by decide +kernel
theorem d_L_2644 : decode YL.2.1 2644 = .ok (.iaload, 1) ∧ 2644 + 1 = 2645 := by decide +kernel
theorem d_L_2645 : decode YL.2.1 2645 = .ok (.aload_n 0, 1) ∧ 2645 + 1 = 2646 := by decide +kernel
theorem d_L_2646 : decode YL.2.1 2646 = .ok (.iload_n 3, 1) ∧ 2646 + 1 = 2647 := by decide +kernel
theorem d_L_2647 : decode YL.2.1 2647 = .ok (.iconst 2, 1) ∧ 2647 + 1 = 2648 := by decide +kernel
theorem d_L_2648 : decode YL.2.1 2648 = .ok (.iadd, 1) ∧ 2648 + 1 = 2649 := by decide +kernel
theorem d_L_2649 : decode YL.2.1 2649 = .ok (.iaload, 1) ∧ 2649 + 1 = 2650 := by decide +kernel
theorem d_L_2650 : decode YL.2.1 2650 = .ok (.invokevirtual 259, 3) ∧ 2650 + 3 = 2653 := by decide +kernel
theorem d_L_2653 : decode YL.2.1 2653 = .ok (.aload_n 2, 1) ∧ 2653 + 1 = 2654 := by decide +kernel
theorem d_L_2654 : decode YL.2.1 2654 = .ok (.aload_n 0, 1) ∧ 2654 + 1 = 2655 := by decide +kernel
theorem d_L_2655 : decode YL.2.1 2655 = .ok (.iload_n 3, 1) ∧ 2655 + 1 = 2656 := by decide +kernel
theorem d_L_2656 : decode YL.2.1 2656 = .ok (.iconst 1, 1) ∧ 2656 + 1 = 2657 := by decide +kernel
theorem d_L_2657 : decode YL.2.1 2657 = .ok (.iadd, 1) ∧ 2657 + 1 = 2658 := by decide +kernel
theorem d_L_2658 : decode YL.2.1 2658 = .ok (.iaload, 1) ∧ 2658 + 1 = 2659 := by decide +kernel
theorem d_L_2659 : decode YL.2.1 2659 = .ok (.aload_n 0, 1) ∧ 2659 + 1 = 2660 := by decide +kernel
theorem d_L_2660 : decode YL.2.1 2660 = .ok (.iload_n 3, 1) ∧ 2660 + 1 = 2661 := by decide +kernel
theorem d_L_2661 : decode YL.2.1 2661 = .ok (.iconst 2, 1) ∧ 2661 + 1 = 2662 := by decide +kernel
theorem d_L_2662 : decode YL.2.1 2662 = .ok (.iadd, 1) ∧ 2662 + 1 = 2663 := by decide +kernel
theorem d_L_2663 : decode YL.2.1 2663 = .ok (.iaload, 1) ∧ 2663 + 1 = 2664 := by decide +kernel
theorem d_L_2664 : decode YL.2.1 2664 = .ok (.invokevirtual 262, 3) ∧ 2664 + 3 = 2667 := by decide +kernel
theorem d_L_2667 : decode YL.2.1 2667 = .ok (.if_icmp .eq 812, 3) ∧ ((2667 : Nat) : Int) + 812 = ((3479 : Nat) : Int) ∧ 2667 + 3 = 2670 := by decide +kernel
theorem d_L_2670 : decode YL.2.1 2670 = .ok (.iconst 0, 1) ∧ 2670 + 1 = 2671 := by decide +kernel
theorem d_L_2671 : decode YL.2.1 2671 = .ok (.ireturn, 1) := by decide +kernel
theorem d_L_2672 : decode YL.2.1 2672 = .ok (.aload_n 1, 1) ∧ 2672 + 1 = 2673 := by decide +kernel
theorem d_L_2673 : decode YL.2.1 2673 = .ok (.aload_n 0, 1) ∧ 2673 + 1 = 2674 := by decide +kernel
theorem d_L_2674 : decode YL.2.1 2674 = .ok (.iload_n 3, 1) ∧ 2674 + 1 = 2675 := by decide +kernel
theorem d_L_2675 : decode YL.2.1 2675 = .ok (.iconst 1, 1) ∧ 2675 + 1 = 2676 := by decide +kernel
theorem d_L_2676 : decode YL.2.1 2676 = .ok (.iadd, 1) ∧ 2676 + 1 = 2677 := by decide +kernel
theorem d_L_2677 : decode YL.2.1 2677 = .ok (.iaload, 1) ∧ 2677 + 1 = 2678 := by decide +kernel
theorem d_L_2678 : decode YL.2.1 2678 = .ok (.aload_n 0, 1) ∧ 2678 + 1 = 2679 := by decide +kernel
theorem d_L_2679 : decode YL.2.1 2679 = .ok (.iload_n 3, 1) ∧ 2679 + 1 = 2680 := by decide +kernel
theorem d_L_2680 : decode YL.2.1 2680 = .ok (.iconst 2, 1) ∧ 2680 + 1 = 2681 := by decide +kernel
theorem d_L_2681 : decode YL.2.1 2681 = .ok (.iadd, 1) ∧ 2681 + 1 = 2682 := by decide +kernel
theorem d_L_2682 : decode YL.2.1 2682 = .ok (.iaload, 1) ∧ 2682 + 1 = 2683 := by decide +kernel
theorem d_L_2683 : decode YL.2.1 2683 = .ok (.invokevirtual 263, 3) ∧ 2683 + 3 = 2686 := by decide +kernel
theorem d_L_2686 : decode YL.2.1 2686 = .ok (.aload_n 2, 1) ∧ 2686 + 1 = 2687 := by decide +kernel
theorem d_L_2687 : decode YL.2.1 2687 = .ok (.aload_n 0, 1) ∧ 2687 + 1 = 2688 := by decide +kernel
theorem d_L_2688 : decode YL.2.1 2688 = .ok (.iload_n 3, 1) ∧ 2688 + 1 = 2689 := by decide +kernel
theorem d_L_2689 : decode YL.2.1 2689 = .ok (.iconst 1, 1) ∧ 2689 + 1 = 2690 := by decide +kernel
theorem d_L_2690 : decode YL.2.1 2690 = .ok (.iadd, 1) ∧ 2690 + 1 = 2691 := by decide +kernel
theorem d_L_2691 : decode YL.2.1 2691 = .ok (.iaload, 1) ∧ 2691 + 1 = 2692 := by decide +kernel
theorem d_L_2692 : decode YL.2.1 2692 = .ok (.aload_n 0, 1) ∧ 2692 + 1 = 2693 := by decide +kernel
theorem d_L_2693 : decode YL.2.1 2693 = .ok (.iload_n 3, 1) ∧ 2693 + 1 = 2694 := by decide +kernel
theorem d_L_2694 : decode YL.2.1 2694 = .ok (.iconst 2, 1) ∧ 2694 + 1 = 2695 := by decide +kernel
theorem d_L_2695 : decode YL.2.1 2695 = .ok (.iadd, 1) ∧ 2695 + 1 = 2696 := by decide +kernel
theorem d_L_2696 : decode YL.2.1 2696 = .ok (.iaload, 1) ∧ 2696 + 1 = 2697 := by decide +kernel
theorem d_L_2697 : decode YL.2.1 2697 = .ok (.invokevirtual 266, 3) ∧ 2697 + 3 = 2700 := by decide +kernel
theorem d_L_2700 : decode YL.2.1 2700 = .ok (.if_icmp .eq 779, 3) ∧ ((2700 : Nat) : Int) + 779 = ((3479 : Nat) : Int) ∧ 2700 + 3 = 2703 := by decide +kernel
theorem d_L_2703 : decode YL.2.1 2703 = .ok (.iconst 0, 1) ∧ 2703 + 1 = 2704 := by decide +kernel
theorem d_L_2704 : decode YL.2.1 2704 = .ok (.ireturn, 1) := by decide +kernel
theorem d_L_2705 : decode YL.2.1 2705 = .ok (.aload_n 1, 1) ∧ 2705 + 1 = 2706 := by decide +kernel
theorem d_L_2706 : decode YL.2.1 2706 = .ok (.aload_n 0, 1) ∧ 2706 + 1 = 2707 := by decide +kernel
theorem d_L_2707 : decode YL.2.1 2707 = .ok (.iload_n 3, 1) ∧ 2707 + 1 = 2708 := by decide +kernel
theorem d_L_2708 : decode YL.2.1 2708 = .ok (.iconst 1, 1) ∧ 2708 + 1 = 2709 := by decide +kernel
theorem d_L_2709 : decode YL.2.1 2709 = .ok (.iadd, 1) ∧ 2709 + 1 = 2710 := by decide +kernel
theorem d_L_2710 : decode YL.2.1 2710 = .ok (.iaload, 1) ∧ 2710 + 1 = 2711 := by decide +kernel
theorem d_L_2711 : decode YL.2.1 2711 = .ok (.aload_n 0, 1) ∧ 2711 + 1 = 2712 := by decide +kernel
theorem d_L_2712 : decode YL.2.1 2712 = .ok (.iload_n 3, 1) ∧ 2712 + 1 = 2713 := by decide +kernel
theorem d_L_2713 : decode YL.2.1 2713 = .ok (.iconst 2, 1) ∧ 2713 + 1 = 2714 := by decide +kernel
theorem d_L_2714 : decode YL.2.1 2714 = .ok (.iadd, 1) ∧ 2714 + 1 = 2715 := by decide +kernel
theorem d_L_2715 : decode YL.2.1 2715 = .ok (.iaload, 1) ∧ 2715 + 1 = 2716 := by decide +kernel
theorem d_L_2716 : decode YL.2.1 2716 = .ok (.aload_n 0, 1) ∧ 2716 + 1 = 2717 := by decide +kernel
theorem d_L_2717 : decode YL.2.1 2717 = .ok (.iload_n 3, 1) ∧ 2717 + 1 = 2718 := by decide +kernel
theorem d_L_2718 : decode YL.2.1 2718 = .ok (.iconst 3, 1) ∧ 2718 + 1 = 2719 := by decide +kernel
theorem d_L_2719 : decode YL.2.1 2719 = .ok (.iadd, 1) ∧ 2719 + 1 = 2720 := by decide +kernel
theorem d_L_2720 : decode YL.2.1 2720 = .ok (.iaload, 1) ∧ 2720 + 1 = 2721 := by decide +kernel
theorem d_L_2721 : decode YL.2.1 2721 = .ok (.aload_n 0, 1) ∧ 2721 + 1 = 2722 := by decide +kernel
theorem d_L_2722 : decode YL.2.1 2722 = .ok (.iload_n 3, 1) ∧ 2722 + 1 = 2723 := by decide +kernel
theorem d_L_2723 : decode YL.2.1 2723 = .ok (.iconst 4, 1) ∧ 2723 + 1 = 2724 := by decide +kernel
theorem d_L_2724 : decode YL.2.1 2724 = .ok (.iadd, 1) ∧ 2724 + 1 = 2725 := by decide +kernel
theorem d_L_2725 : decode YL.2.1 2725 = .ok (.iaload, 1) ∧ 2725 + 1 = 2726 := by decide +kernel
theorem d_L_2726 : decode YL.2.1 2726 = .ok (.invokevirtual 267, 3) ∧ 2726 + 3 = 2729 := by decide +kernel
theorem d_L_2729 : decode YL.2.1 2729 = .ok (.aload_n 2, 1) ∧ 2729 + 1 = 2730 := by decide +kernel
theorem d_L_2730 : decode YL.2.1 2730 = .ok (.aload_n 0, 1) ∧ 2730 + 1 = 2731 := by decide +kernel
theorem d_L_2731 : decode YL.2.1 2731 = .ok (.iload_n 3, 1) ∧ 2731 + 1 = 2732 := by decide +kernel
theorem d_L_2732 : decode YL.2.1 2732 = .ok (.iconst 1, 1) ∧ 2732 + 1 = 2733 := by decide +kernel
theorem d_L_2733 : decode YL.2.1 2733 = .ok (.iadd, 1) ∧ 2733 + 1 = 2734 := by decide +kernel
theorem d_L_2734 : decode YL.2.1 2734 = .ok (.iaload, 1) ∧ 2734 + 1 = 2735 := by decide +kernel
theorem d_L_2735 : decode YL.2.1 2735 = .ok (.aload_n 0, 1) ∧ 2735 + 1 = 2736 := by decide +kernel
theorem d_L_2736 : decode YL.2.1 2736 = .ok (.iload_n 3, 1) ∧ 2736 + 1 = 2737 := by decide +kernel
theorem d_L_2737 : decode YL.2.1 2737 = .ok (.iconst 2, 1) ∧ 2737 + 1 = 2738 := by decide +kernel
theorem d_L_2738 : decode YL.2.1 2738 = .ok (.iadd, 1) ∧ 2738 + 1 = 2739 := by decide +kernel
theorem d_L_2739 : decode YL.2.1 2739 = .ok (.iaload, 1) ∧ 2739 + 1 = 2740 := by decide +kernel
theorem d_L_2740 : decode YL.2.1 2740 = .ok (.aload_n 0, 1) ∧ 2740 + 1 = 2741 := by decide +kernel
theorem d_L_2741 : decode YL.2.1 2741 = .ok (.iload_n 3, 1) ∧ 2741 + 1 = 2742 := by decide +kernel
theorem d_L_2742 : decode YL.2.1 2742 = .ok (.iconst 3, 1) ∧ 2742 + 1 = 2743 := by decide +kernel
theorem d_L_2743 : decode YL.2.1 2743 = .ok (.iadd, 1) ∧ 2743 + 1 = 2744 := by decide +kernel
theorem d_L_2744 : decode YL.2.1 2744 = .ok (.iaload, 1) ∧ 2744 + 1 = 2745 := by decide +kernel
theorem d_L_2745 : decode YL.2.1 2745 = .ok (.aload_n 0, 1) ∧ 2745 + 1 = 2746 := by decide +kernel
theorem d_L_2746 : decode YL.2.1 2746 = .ok (.iload_n 3, 1) ∧ 2746 + 1 = 2747 := by decide +kernel
theorem d_L_2747 : decode YL.2.1 2747 = .ok (.iconst 4, 1) ∧ 2747 + 1 = 2748 := by decide +kernel
theorem d_L_2748 : decode YL.2.1 2748 = .ok (.iadd, 1) ∧ 2748 + 1 = 2749 := by decide +kernel
theorem d_L_2749 : decode YL.2.1 2749 = .ok (.iaload, 1) ∧ 2749 + 1 = 2750 := by decide +kernel
theorem d_L_2750 : decode YL.2.1 2750 = .ok (.invokevirtual 270, 3) ∧ 2750 + 3 = 2753 := by decide +kernel
theorem d_L_2753 : decode YL.2.1 2753 = .ok (.if_icmp .eq 726, 3) ∧ ((2753 : Nat) : Int) + 726 = ((3479 : Nat) : Int) ∧ 2753 + 3 = 2756 := by decide +kernel
theorem d_L_2756 : decode YL.2.1 2756 = .ok (.iconst 0, 1) ∧ 2756 + 1 = 2757 := by decide +kernel
theorem d_L_2757 : decode YL.2.1 2757 = .ok (.ireturn, 1) := by decide +kernel
theorem d_L_2758 : decode YL.2.1 2758 = .ok (.aload_n 1, 1) ∧ 2758 + 1 = 2759 := by decide +kernel
theorem d_L_2759 : decode YL.2.1 2759 = .ok (.invokevirtual 271, 3) ∧ 2759 + 3 = 2762 := by decide +kernel
theorem d_L_2762 : decode YL.2.1 2762 = .ok (.aload_n 2, 1) ∧ 2762 + 1 = 2763 := by decide +kernel
theorem d_L_2763 : decode YL.2.1 2763 = .ok (.invokevirtual 274, 3) ∧ 2763 + 3 = 2766 := by decide +kernel
theorem d_L_2766 : decode YL.2.1 2766 = .ok (.if_icmp .eq 713, 3) ∧ ((2766 : Nat) : Int) + 713 = ((3479 : Nat) : Int) ∧ 2766 + 3 = 2769 := by decide +kernel
theorem d_L_2769 : decode YL.2.1 2769 = .ok (.iconst 0, 1) ∧ 2769 + 1 = 2770 := by decide +kernel
theorem d_L_2770 : decode YL.2.1 2770 = .ok (.ireturn, 1) := by decide +kernel
theorem d_L_2771 : decode YL.2.1 2771 = .ok (.aload_n 1, 1) ∧ 2771 + 1 = 2772 := by decide +kernel
theorem d_L_2772 : decode YL.2.1 2772 = .ok (.invokevirtual 275, 3) ∧ 2772 + 3 = 2775 := by decide +kernel
theorem d_L_2775 : decode YL.2.1 2775 = .ok (.aload_n 2, 1) ∧ 2775 + 1 = 2776 := by decide +kernel
theorem d_L_2776 : decode YL.2.1 2776 = .ok (.invokevirtual 278, 3) ∧ 2776 + 3 = 2779 := by decide +kernel
theorem d_L_2779 : decode YL.2.1 2779 = .ok (.if_icmp .eq 700, 3) ∧ ((2779 : Nat) : Int) + 700 = ((3479 : Nat) : Int) ∧ 2779 + 3 = 2782 := by decide +kernel
theorem d_L_2782 : decode YL.2.1 2782 = .ok (.iconst 0, 1) ∧ 2782 + 1 = 2783 := by decide +kernel
theorem d_L_2783 : decode YL.2.1 2783 = .ok (.ireturn, 1) := by decide +kernel
theorem d_L_2784 : decode YL.2.1 2784 = .ok (.aload_n 1, 1) ∧ 2784 + 1 = 2785 := by decide +kernel
theorem d_L_2785 : decode YL.2.1 2785 = .ok (.invokevirtual 279, 3) ∧ 2785 + 3 = 2788 := by decide +kernel
theorem d_L_2788 : decode YL.2.1 2788 = .ok (.aload_n 2, 1) ∧ 2788 + 1 = 2789 := by decide +kernel
theorem d_L_2789 : decode YL.2.1 2789 = .ok (.invokevirtual 282, 3) ∧ 2789 + 3 = 2792 := by decide +kernel
theorem d_L_2792 : decode YL.2.1 2792 = .ok (.if_icmp .eq 687, 3) ∧ ((2792 : Nat) : Int) + 687 = ((3479 : Nat) : Int) ∧ 2792 + 3 = 2795 := by decide +kernel
theorem d_L_2795 : decode YL.2.1 2795 = .ok (.iconst 0, 1) ∧ 2795 + 1 = 2796 := by decide +kernel
theorem d_L_2796 : decode YL.2.1 2796 = .ok (.ireturn, 1) := by decide +kernel
theorem d_L_2797 : decode YL.2.1 2797 = .ok (.aload_n 1, 1) ∧ 2797 + 1 = 2798 := by decide +kernel
theorem d_L_2798 : decode YL.2.1 2798 = .ok (.aload_n 0, 1) ∧ 2798 + 1 = 2799 := by decide +kernel
theorem d_L_2799 : decode YL.2.1 2799 = .ok (.iload_n 3, 1) ∧ 2799 + 1 = 2800 := by decide +kernel
theorem d_L_2800 : decode YL.2.1 2800 = .ok (.iconst 1, 1) ∧ 2800 + 1 = 2801 := by decide +kernel
theorem d_L_2801 : decode YL.2.1 2801 = .ok (.iadd, 1) ∧ 2801 + 1 = 2802 := by decide +kernel
theorem d_L_2802 : decode YL.2.1 2802 = .ok (.iaload, 1) ∧ 2802 + 1 = 2803 := by decide +kernel
theorem d_L_2803 : decode YL.2.1 2803 = .ok (.aload_n 0, 1) ∧ 2803 + 1 = 2804 := by decide +kernel
theorem d_L_2804 : decode YL.2.1 2804 = .ok (.iload_n 3, 1) ∧ 2804 + 1 = 2805 := by decide +kernel
theorem d_L_2805 : decode YL.2.1 2805 = .ok (.iconst 2, 1) ∧ 2805 + 1 = 2806 := by decide +kernel
theorem d_L_2806 : decode YL.2.1 2806 = .ok (.iadd, 1) ∧ 2806 + 1 = 2807 := by decide +kernel
theorem d_L_2807 : decode YL.2.1 2807 = .ok (.iaload, 1) ∧ 2807 + 1 = 2808 := by decide +kernel
theorem d_L_2808 : decode YL.2.1 2808 = .ok (.invokevirtual 283, 3) ∧ 2808 + 3 = 2811 := by decide +kernel
theorem d_L_2811 : decode YL.2.1 2811 = .ok (.aload_n 2, 1) ∧ 2811 + 1 = 2812 := by decide +kernel
theorem d_L_2812 : decode YL.2.1 2812 = .ok (.aload_n 0, 1) ∧ 2812 + 1 = 2813 := by decide +kernel
theorem d_L_2813 : decode YL.2.1 2813 = .ok (.iload_n 3, 1) ∧ 2813 + 1 = 2814 := by decide +kernel
theorem d_L_2814 : decode YL.2.1 2814 = .ok (.iconst 1, 1) ∧ 2814 + 1 = 2815 := by decide +kernel
theorem d_L_2815 : decode YL.2.1 2815 = .ok (.iadd, 1) ∧ 2815 + 1 = 2816 := by decide +kernel
theorem d_L_2816 : decode YL.2.1 2816 = .ok (.iaload, 1) ∧ 2816 + 1 = 2817 := by decide +kernel
theorem d_L_2817 : decode YL.2.1 2817 = .ok (.aload_n 0, 1) ∧ 2817 + 1 = 2818 := by decide +kernel
theorem d_L_2818 : decode YL.2.1 2818 = .ok (.iload_n 3, 1) ∧ 2818 + 1 = 2819 := by decide +kernel
theorem d_L_2819 : decode YL.2.1 2819 = .ok (.iconst 2, 1) ∧ 2819 + 1 = 2820 := by decide +kernel
theorem d_L_2820 : decode YL.2.1 2820 = .ok (.iadd, 1) ∧ 2820 + 1 = 2821 := by decide +kernel
theorem d_L_2821 : decode YL.2.1 2821 = .ok (.iaload, 1) ∧ 2821 + 1 = 2822 := by decide +kernel
theorem d_L_2822 : decode YL.2.1 2822 = .ok (.invokevirtual 286, 3) ∧ 2822 + 3 = 2825 := by decide +kernel
theorem d_L_2825 : decode YL.2.1 2825 = .ok (.if_icmp .eq 654, 3) ∧ ((2825 : Nat) : Int) + 654 = ((3479 : Nat) : Int) ∧ 2825 + 3 = 2828 := by decide +kernel
theorem d_L_2828 : decode YL.2.1 2828 = .ok (.iconst 0, 1) ∧ 2828 + 1 = 2829 := by decide +kernel
theorem d_L_2829 : decode YL.2.1 2829 = .ok (.ireturn, 1) := by decide +kernel
theorem d_L_2830 : decode YL.2.1 2830 = .ok (.aload_n 1, 1) ∧ 2830 + 1 = 2831 := by decide +kernel
theorem d_L_2831 : decode YL.2.1 2831 = .ok (.aload_n 0, 1) ∧ 2831 + 1 = 2832 := by decide +kernel
theorem d_L_2832 : decode YL.2.1 2832 = .ok (.iload_n 3, 1) ∧ 2832 + 1 = 2833 := by decide +kernel
theorem d_L_2833 : decode YL.2.1 2833 = .ok (.iconst 1, 1) ∧ 2833 + 1 = 2834 := by decide +kernel
theorem d_L_2834 : decode YL.2.1 2834 = .ok (.iadd, 1) ∧ 2834 + 1 = 2835 := by decide +kernel
theorem d_L_2835 : decode YL.2.1 2835 = .ok (.iaload, 1) ∧ 2835 + 1 = 2836 := by decide +kernel
theorem d_L_2836 : decode YL.2.1 2836 = .ok (.invokevirtual 287, 3) ∧ 2836 + 3 = 2839 := by decide +kernel
theorem d_L_2839 : decode YL.2.1 2839 = .ok (.aload_n 2, 1) ∧ 2839 + 1 = 2840 := by decide +kernel
theorem d_L_2840 : decode YL.2.1 2840 = .ok (.aload_n 0, 1) ∧ 2840 + 1 = 2841 := by decide +kernel
theorem d_L_2841 : decode YL.2.1 2841 = .ok (.iload_n 3, 1) ∧ 2841 + 1 = 2842 := by decide +kernel
theorem d_L_2842 : decode YL.2.1 2842 = .ok (.iconst 1, 1) ∧ 2842 + 1 = 2843 := by decide +kernel
theorem d_L_2843 : decode YL.2.1 2843 = .ok (.iadd, 1) ∧ 2843 + 1 = 2844 := by decide +kernel
theorem d_L_2844 : decode YL.2.1 2844 = .ok (.iaload, 1) ∧ 2844 + 1 = 2845 := by decide +kernel
theorem d_L_2845 : decode YL.2.1 2845 = .ok (.invokevirtual 290, 3) ∧ 2845 + 3 = 2848 := by decide +kernel
theorem d_L_2848 : decode YL.2.1 2848 = .ok (.if_icmp .eq 631, 3) ∧ ((2848 : Nat) : Int) + 631 = ((3479 : Nat) : Int) ∧ 2848 + 3 = 2851 := by decide +kernel
theorem d_L_2851 : decode YL.2.1 2851 = .ok (.iconst 0, 1) ∧ 2851 + 1 = 2852 := by decide +kernel
theorem d_L_2852 : decode YL.2.1 2852 = .ok (.ireturn, 1) := by decide +kernel
theorem d_L_2853 : decode YL.2.1 2853 = .ok (.aload_n 1, 1) ∧ 2853 + 1 = 2854 := by decide +kernel
theorem d_L_2854 : decode YL.2.1 2854 = .ok (.aload_n 0, 1) ∧ 2854 + 1 = 2855 := by decide +kernel
theorem d_L_2855 : decode YL.2.1 2855 = .ok (.iload_n 3, 1) ∧ 2855 + 1 = 2856 := by decide +kernel
theorem d_L_2856 : decode YL.2.1 2856 = .ok (.iconst 1, 1) ∧ 2856 + 1 = 2857 := by decide +kernel
theorem d_L_2857 : decode YL.2.1 2857 = .ok (.iadd, 1) ∧ 2857 + 1 = 2858 := by decide +kernel
theorem d_L_2858 : decode YL.2.1 2858 = .ok (.iaload, 1) ∧ 2858 + 1 = 2859 := by decide +kernel
theorem d_L_2859 : decode YL.2.1 2859 = .ok (.aload_n 0, 1) ∧ 2859 + 1 = 2860 := by decide +kernel
theorem d_L_2860 : decode YL.2.1 2860 = .ok (.iload_n 3, 1) ∧ 2860 + 1 = 2861 := by decide +kernel
theorem d_L_2861 : decode YL.2.1 2861 = .ok (.iconst 2, 1) ∧ 2861 + 1 = 2862 := by decide +kernel
theorem d_L_2862 : decode YL.2.1 2862 = .ok (.iadd, 1) ∧ 2862 + 1 = 2863 := by decide +kernel
theorem d_L_2863 : decode YL.2.1 2863 = .ok (.iaload, 1) ∧ 2863 + 1 = 2864 := by decide +kernel
theorem d_L_2864 : decode YL.2.1 2864 = .ok (.invokevirtual 291, 3) ∧ 2864 + 3 = 2867 := by decide +kernel
theorem d_L_2867 : decode YL.2.1 2867 = .ok (.aload_n 2, 1) ∧ 2867 + 1 = 2868 := by decide +kernel
theorem d_L_2868 : decode YL.2.1 2868 = .ok (.aload_n 0, 1) ∧ 2868 + 1 = 2869 := by decide +kernel
theorem d_L_2869 : decode YL.2.1 2869 = .ok (.iload_n 3, 1) ∧ 2869 + 1 = 2870 := by decide +kernel
theorem d_L_2870 : decode YL.2.1 2870 = .ok (.iconst 1, 1) ∧ 2870 + 1 = 2871 := by decide +kernel
theorem d_L_2871 : decode YL.2.1 2871 = .ok (.iadd, 1) ∧ 2871 + 1 = 2872 := by decide +kernel
theorem d_L_2872 : decode YL.2.1 2872 = .ok (.iaload, 1) ∧ 2872 + 1 = 2873 := by decide +kernel
theorem d_L_2873 : decode YL.2.1 2873 = .ok (.aload_n 0, 1) ∧ 2873 + 1 = 2874 := by decide +kernel
theorem d_L_2874 : decode YL.2.1 2874 = .ok (.iload_n 3, 1) ∧ 2874 + 1 = 2875 := by decide +kernel
theorem d_L_2875 : decode YL.2.1 2875 = .ok (.iconst 2, 1) ∧ 2875 + 1 = 2876 := by decide +kernel
theorem d_L_2876 : decode YL.2.1 2876 = .ok (.iadd, 1) ∧ 2876 + 1 = 2877 := by decide +kernel
theorem d_L_2877 : decode YL.2.1 2877 = .ok (.iaload, 1) ∧ 2877 + 1 = 2878 := by decide +kernel
theorem d_L_2878 : decode YL.2.1 2878 = .ok (.invokevirtual 294, 3) ∧ 2878 + 3 = 2881 := by decide +kernel
theorem d_L_2881 : decode YL.2.1 2881 = .ok (.if_icmp .eq 598, 3) ∧ ((2881 : Nat) : Int) + 598 = ((3479 : Nat) : Int) ∧ 2881 + 3 = 2884 := by decide +kernel
theorem d_L_2884 : decode YL.2.1 2884 = .ok (.iconst 0, 1) ∧ 2884 + 1 = 2885 := by decide +kernel
theorem d_L_2885 : decode YL.2.1 2885 = .ok (.ireturn, 1) := by decide +kernel
theorem d_L_2886 : decode YL.2.1 2886 = .ok (.aload_n 1, 1) ∧ 2886 + 1 = 2887 := by decide +kernel
theorem d_L_2887 : decode YL.2.1 2887 = .ok (.aload_n 0, 1) ∧ 2887 + 1 = 2888 := by decide +kernel
theorem d_L_2888 : decode YL.2.1 2888 = .ok (.iload_n 3, 1) ∧ 2888 + 1 = 2889 := by decide +kernel
theorem d_L_2889 : decode YL.2.1 2889 = .ok (.iconst 1, 1) ∧ 2889 + 1 = 2890 := by decide +kernel
theorem d_L_2890 : decode YL.2.1 2890 = .ok (.iadd, 1) ∧ 2890 + 1 = 2891 := by decide +kernel
theorem d_L_2891 : decode YL.2.1 2891 = .ok (.iaload, 1) ∧ 2891 + 1 = 2892 := by decide +kernel
theorem d_L_2892 : decode YL.2.1 2892 = .ok (.invokevirtual 295, 3) ∧ 2892 + 3 = 2895 := by decide +kernel
theorem d_L_2895 : decode YL.2.1 2895 = .ok (.aload_n 2, 1) ∧ 2895 + 1 = 2896 := by decide +kernel
theorem d_L_2896 : decode YL.2.1 2896 = .ok (.aload_n 0, 1) ∧ 2896 + 1 = 2897 := by decide +kernel
theorem d_L_2897 : decode YL.2.1 2897 = .ok (.iload_n 3, 1) ∧ 2897 + 1 = 2898 := by decide +kernel
theorem d_L_2898 : decode YL.2.1 2898 = .ok (.iconst 1, 1) ∧ 2898 + 1 = 2899 := by decide +kernel
theorem d_L_2899 : decode YL.2.1 2899 = .ok (.iadd, 1) ∧ 2899 + 1 = 2900 := by decide +kernel
theorem d_L_2900 : decode YL.2.1 2900 = .ok (.iaload, 1) ∧ 2900 + 1 = 2901 := by decide +kernel
theorem d_L_2901 : decode YL.2.1 2901 = .ok (.invokevirtual 298, 3) ∧ 2901 + 3 = 2904 := by decide +kernel
theorem d_L_2904 : decode YL.2.1 2904 = .ok (.if_icmp .eq 575, 3) ∧ ((2904 : Nat) : Int) + 575 = ((3479 : Nat) : Int) ∧ 2904 + 3 = 2907 := by decide +kernel
theorem d_L_2907 : decode YL.2.1 2907 = .ok (.iconst 0, 1) ∧ 2907 + 1 = 2908 := by decide +kernel
theorem d_L_2908 : decode YL.2.1 2908 = .ok (.ireturn, 1) := by decide +kernel
theorem d_L_2909 : decode YL.2.1 2909 = .ok (.aload_n 1, 1) ∧ 2909 + 1 = 2910 := by decide +kernel
theorem d_L_2910 : decode YL.2.1 2910 = .ok (.aload_n 0, 1) ∧ 2910 + 1 = 2911 := by decide +kernel
theorem d_L_2911 : decode YL.2.1 2911 = .ok (.iload_n 3, 1) ∧ 2911 + 1 = 2912 := by decide +kernel
theorem d_L_2912 : decode YL.2.1 2912 = .ok (.iconst 1, 1) ∧ 2912 + 1 = 2913 := by decide +kernel
theorem d_L_2913 : decode YL.2.1 2913 = .ok (.iadd, 1) ∧ 2913 + 1 = 2914 := by decide +kernel
theorem d_L_2914 : decode YL.2.1 2914 = .ok (.iaload, 1) ∧ 2914 + 1 = 2915 := by decide +kernel
theorem d_L_2915 : decode YL.2.1 2915 = .ok (.aload_n 0, 1) ∧ 2915 + 1 = 2916 := by decide +kernel
theorem d_L_2916 : decode YL.2.1 2916 = .ok (.iload_n 3, 1) ∧ 2916 + 1 = 2917 := by decide +kernel
theorem d_L_2917 : decode YL.2.1 2917 = .ok (.iconst 2, 1) ∧ 2917 + 1 = 2918 := by decide +kernel
theorem d_L_2918 : decode YL.2.1 2918 = .ok (.iadd, 1) ∧ 2918 + 1 = 2919 := by decide +kernel
theorem d_L_2919 : decode YL.2.1 2919 = .ok (.iaload, 1) ∧ 2919 + 1 = 2920 := by decide +kernel
theorem d_L_2920 : decode YL.2.1 2920 = .ok (.i2l, 1) ∧ 2920 + 1 = 2921 := by decide +kernel
theorem d_L_2921 : decode YL.2.1 2921 = .ok (.bipush 32, 2) ∧ 2921 + 2 = 2923 := by decide +kernel
theorem d_L_2923 : decode YL.2.1 2923 = .ok (.lshl, 1) ∧ 2923 + 1 = 2924 := by decide +kernel
theorem d_L_2924 : decode YL.2.1 2924 = .ok (.aload_n 0, 1) ∧ 2924 + 1 = 2925 := by decide +kernel
theorem d_L_2925 : decode YL.2.1 2925 = .ok (.iload_n 3, 1) ∧ 2925 + 1 = 2926 := by decide +kernel
theorem d_L_2926 : decode YL.2.1 2926 = .ok (.iconst 3, 1) ∧ 2926 + 1 = 2927 := by decide +kernel
theorem d_L_2927 : decode YL.2.1 2927 = .ok (.iadd, 1) ∧ 2927 + 1 = 2928 := by decide +kernel
theorem d_L_2928 : decode YL.2.1 2928 = .ok (.iaload, 1) ∧ 2928 + 1 = 2929 := by decide +kernel
theorem d_L_2929 : decode YL.2.1 2929 = .ok (.i2l, 1) ∧ 2929 + 1 = 2930 := by decide +kernel
theorem d_L_2930 : decode YL.2.1 2930 = .ok (.ldc2_w 13, 3) ∧ 2930 + 3 = 2933 := by decide +kernel
theorem d_L_2933 : decode YL.2.1 2933 = .ok (.land, 1) ∧ 2933 + 1 = 2934 := by decide +kernel
theorem d_L_2934 : decode YL.2.1 2934 = .ok (.lor, 1) ∧ 2934 + 1 = 2935 := by decide +kernel
theorem d_L_2935 : decode YL.2.1 2935 = .ok (.invokevirtual 299, 3) ∧ 2935 + 3 = 2938 := by decide +kernel
theorem d_L_2938 : decode YL.2.1 2938 = .ok (.aload_n 2, 1) ∧ 2938 + 1 = 2939 := by decide +kernel
theorem d_L_2939 : decode YL.2.1 2939 = .ok (.aload_n 0, 1) ∧ 2939 + 1 = 2940 := by decide +kernel
theorem d_L_2940 : decode YL.2.1 2940 = .ok (.iload_n 3, 1) ∧ 2940 + 1 = 2941 := by decide +kernel
theorem d_L_2941 : decode YL.2.1 2941 = .ok (.iconst 1, 1) ∧ 2941 + 1 = 2942 := by decide +kernel
theorem d_L_2942 : decode YL.2.1 2942 = .ok (.iadd, 1) ∧ 2942 + 1 = 2943 := by decide +kernel
theorem d_L_2943 : decode YL.2.1 2943 = .ok (.iaload, 1) ∧ 2943 + 1 = 2944 := by decide +kernel
theorem d_L_2944 : decode YL.2.1 2944 = .ok (.aload_n 0, 1) ∧ 2944 + 1 = 2945 := by decide +kernel
theorem d_L_2945 : decode YL.2.1 2945 = .ok (.iload_n 3, 1) ∧ 2945 + 1 = 2946 := by decide +kernel
theorem d_L_2946 : decode YL.2.1 2946 = .ok (.iconst 2, 1) ∧ 2946 + 1 = 2947 := by decide +kernel
theorem d_L_2947 : decode YL.2.1 2947 = .ok (.iadd, 1) ∧ 2947 + 1 = 2948 := by decide +kernel
theorem d_L_2948 : decode YL.2.1 2948 = .ok (.iaload, 1) ∧ 2948 + 1 = 2949 := by decide +kernel
theorem d_L_2949 : decode YL.2.1 2949 = .ok (.i2l, 1) ∧ 2949 + 1 = 2950 := by decide +kernel
theorem d_L_2950 : decode YL.2.1 2950 = .ok (.bipush 32, 2) ∧ 2950 + 2 = 2952 := by decide +kernel
theorem d_L_2952 : decode YL.2.1 2952 = .ok (.lshl, 1) ∧ 2952 + 1 = 2953 := by decide +kernel
theorem d_L_2953 : decode YL.2.1 2953 = .ok (.aload_n 0, 1) ∧ 2953 + 1 = 2954 := by decide +kernel
theorem d_L_2954 : decode YL.2.1 2954 = .ok (.iload_n 3, 1) ∧ 2954 + 1 = 2955 := by decide +kernel
theorem d_L_2955 : decode YL.2.1 2955 = .ok (.iconst 3, 1) ∧ 2955 + 1 = 2956 := by decide +kernel
theorem d_L_2956 : decode YL.2.1 2956 = .ok (.iadd, 1) ∧ 2956 + 1 = 2957 := by decide +kernel
theorem d_L_2957 : decode YL.2.1 2957 = .ok (.iaload, 1) ∧ 2957 + 1 = 2958 := by decide +kernel
theorem d_L_2958 : decode YL.2.1 2958 = .ok (.i2l, 1) ∧ 2958 + 1 = 2959 := by decide +kernel
theorem d_L_2959 : decode YL.2.1 2959 = .ok (.ldc2_w 13, 3) ∧ 2959 + 3 = 2962 := by decide +kernel
theorem d_L_2962 : decode YL.2.1 2962 = .ok (.land, 1) ∧ 2962 + 1 = 2963 := by decide +kernel
theorem d_L_2963 : decode YL.2.1 2963 = .ok (.lor, 1) ∧ 2963 + 1 = 2964 := by decide +kernel
