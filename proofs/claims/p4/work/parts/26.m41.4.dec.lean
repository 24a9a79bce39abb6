theorem dB_old_26_m41_4_dec_0 : dAll YL.2.1 [(2432, (.iload_n 3, 1)), (2433, (.iconst 2, 1)), (2434, (.iadd, 1)), (2435, (.iaload, 1)), (2436, (.aload_n 0, 1)), (2437, (.iload_n 3, 1)), (2438, (.iconst 3, 1)), (2439, (.iadd, 1)), (2440, (.iaload, 1)), (2441, (.aload_n 0, 1)), (2442, (.iload_n 3, 1)), (2443, (.iconst 4, 1)), (2444, (.iadd, 1)), (2445, (.iaload, 1)), (2446, (.invokevirtual 238, 3)), (2449, (.pop, 1)), (2450, (.goto 1026, 3)), (2453, (.aload_n 1, 1)), (2454, (.aload_n 0, 1)), (2455, (.iload_n 3, 1)), (2456, (.iconst 1, 1)), (2457, (.iadd, 1)), (2458, (.iaload, 1)), (2459, (.invokevirtual 239, 3)), (2462, (.pop, 1)), (2463, (.aload_n 2, 1)), (2464, (.aload_n 0, 1)), (2465, (.iload_n 3, 1)), (2466, (.iconst 1, 1)), (2467, (.iadd, 1))] := dAll_of (by decide +kernel)
theorem d_L_2432 : decode YL.2.1 2432 = .ok (.iload_n 3, 1) ∧ 2432 + 1 = 2433 := ⟨dB_old_26_m41_4_dec_0.1, by decide⟩
theorem d_L_2433 : decode YL.2.1 2433 = .ok (.iconst 2, 1) ∧ 2433 + 1 = 2434 := ⟨dB_old_26_m41_4_dec_0.2.1, by decide⟩
theorem d_L_2434 : decode YL.2.1 2434 = .ok (.iadd, 1) ∧ 2434 + 1 = 2435 := ⟨dB_old_26_m41_4_dec_0.2.2.1, by decide⟩
theorem d_L_2435 : decode YL.2.1 2435 = .ok (.iaload, 1) ∧ 2435 + 1 = 2436 := ⟨dB_old_26_m41_4_dec_0.2.2.2.1, by decide⟩
theorem d_L_2436 : decode YL.2.1 2436 = .ok (.aload_n 0, 1) ∧ 2436 + 1 = 2437 := ⟨dB_old_26_m41_4_dec_0.2.2.2.2.1, by decide⟩
theorem d_L_2437 : decode YL.2.1 2437 = .ok (.iload_n 3, 1) ∧ 2437 + 1 = 2438 := ⟨dB_old_26_m41_4_dec_0.2.2.2.2.2.1, by decide⟩
theorem d_L_2438 : decode YL.2.1 2438 = .ok (.iconst 3, 1) ∧ 2438 + 1 = 2439 := ⟨dB_old_26_m41_4_dec_0.2.2.2.2.2.2.1, by decide⟩
theorem d_L_2439 : decode YL.2.1 2439 = .ok (.iadd, 1) ∧ 2439 + 1 = 2440 := ⟨dB_old_26_m41_4_dec_0.2.2.2.2.2.2.2.1, by decide⟩
theorem d_L_2440 : decode YL.2.1 2440 = .ok (.iaload, 1) ∧ 2440 + 1 = 2441 := ⟨dB_old_26_m41_4_dec_0.2.2.2.2.2.2.2.2.1, by decide⟩
theorem d_L_2441 : decode YL.2.1 2441 = .ok (.aload_n 0, 1) ∧ 2441 + 1 = 2442 := ⟨dB_old_26_m41_4_dec_0.2.2.2.2.2.2.2.2.2.1, by decide⟩
theorem d_L_2442 : decode YL.2.1 2442 = .ok (.iload_n 3, 1) ∧ 2442 + 1 = 2443 := ⟨dB_old_26_m41_4_dec_0.2.2.2.2.2.2.2.2.2.2.1, by decide⟩
theorem d_L_2443 : decode YL.2.1 2443 = .ok (.iconst 4, 1) ∧ 2443 + 1 = 2444 := ⟨dB_old_26_m41_4_dec_0.2.2.2.2.2.2.2.2.2.2.2.1, by decide⟩
theorem d_L_2444 : decode YL.2.1 2444 = .ok (.iadd, 1) ∧ 2444 + 1 = 2445 := ⟨dB_old_26_m41_4_dec_0.2.2.2.2.2.2.2.2.2.2.2.2.1, by decide⟩
theorem d_L_2445 : decode YL.2.1 2445 = .ok (.iaload, 1) ∧ 2445 + 1 = 2446 := ⟨dB_old_26_m41_4_dec_0.2.2.2.2.2.2.2.2.2.2.2.2.2.1, by decide⟩
theorem d_L_2446 : decode YL.2.1 2446 = .ok (.invokevirtual 238, 3) ∧ 2446 + 3 = 2449 := ⟨dB_old_26_m41_4_dec_0.2.2.2.2.2.2.2.2.2.2.2.2.2.2.1, by decide⟩
theorem d_L_2449 : decode YL.2.1 2449 = .ok (.pop, 1) ∧ 2449 + 1 = 2450 := ⟨dB_old_26_m41_4_dec_0.2.2.2.2.2.2.2.2.2.2.2.2.2.2.2.1, by decide⟩
theorem d_L_2450 : decode YL.2.1 2450 = .ok (.goto 1026, 3) ∧ ((2450 : Nat) : Int) + 1026 = ((3476 : Nat) : Int) ∧ 2450 + 3 = 2453 := ⟨dB_old_26_m41_4_dec_0.2.2.2.2.2.2.2.2.2.2.2.2.2.2.2.2.1, by decide⟩
theorem d_L_2453 : decode YL.2.1 2453 = .ok (.aload_n 1, 1) ∧ 2453 + 1 = 2454 := ⟨dB_old_26_m41_4_dec_0.2.2.2.2.2.2.2.2.2.2.2.2.2.2.2.2.2.1, by decide⟩
theorem d_L_2454 : decode YL.2.1 2454 = .ok (.aload_n 0, 1) ∧ 2454 + 1 = 2455 := ⟨dB_old_26_m41_4_dec_0.2.2.2.2.2.2.2.2.2.2.2.2.2.2.2.2.2.2.1, by decide⟩
theorem d_L_2455 : decode YL.2.1 2455 = .ok (.iload_n 3, 1) ∧ 2455 + 1 = 2456 := ⟨dB_old_26_m41_4_dec_0.2.2.2.2.2.2.2.2.2.2.2.2.2.2.2.2.2.2.2.1, by decide⟩
theorem d_L_2456 : decode YL.2.1 2456 = .ok (.iconst 1, 1) ∧ 2456 + 1 = 2457 := ⟨dB_old_26_m41_4_dec_0.2.2.2.2.2.2.2.2.2.2.2.2.2.2.2.2.2.2.2.2.1, by decide⟩
theorem d_L_2457 : decode YL.2.1 2457 = .ok (.iadd, 1) ∧ 2457 + 1 = 2458 := ⟨dB_old_26_m41_4_dec_0.2.2.2.2.2.2.2.2.2.2.2.2.2.2.2.2.2.2.2.2.2.1, by decide⟩
theorem d_L_2458 : decode YL.2.1 2458 = .ok (.iaload, 1) ∧ 2458 + 1 = 2459 := ⟨dB_old_26_m41_4_dec_0.2.2.2.2.2.2.2.2.2.2.2.2.2.2.2.2.2.2.2.2.2.2.1, by decide⟩
theorem d_L_2459 : decode YL.2.1 2459 = .ok (.invokevirtual 239, 3) ∧ 2459 + 3 = 2462 := ⟨dB_old_26_m41_4_dec_0.2.2.2.2.2.2.2.2.2.2.2.2.2.2.2.2.2.2.2.2.2.2.2.1, by decide⟩
theorem d_L_2462 : decode YL.2.1 2462 = .ok (.pop, 1) ∧ 2462 + 1 = 2463 := ⟨dB_old_26_m41_4_dec_0.2.2.2.2.2.2.2.2.2.2.2.2.2.2.2.2.2.2.2.2.2.2.2.2.1, by decide⟩
theorem d_L_2463 : decode YL.2.1 2463 = .ok (.aload_n 2, 1) ∧ 2463 + 1 = 2464 := ⟨dB_old_26_m41_4_dec_0.2.2.2.2.2.2.2.2.2.2.2.2.2.2.2.2.2.2.2.2.2.2.2.2.2.1, by decide⟩
theorem d_L_2464 : decode YL.2.1 2464 = .ok (.aload_n 0, 1) ∧ 2464 + 1 = 2465 := ⟨dB_old_26_m41_4_dec_0.2.2.2.2.2.2.2.2.2.2.2.2.2.2.2.2.2.2.2.2.2.2.2.2.2.2.1, by decide⟩
theorem d_L_2465 : decode YL.2.1 2465 = .ok (.iload_n 3, 1) ∧ 2465 + 1 = 2466 := ⟨dB_old_26_m41_4_dec_0.2.2.2.2.2.2.2.2.2.2.2.2.2.2.2.2.2.2.2.2.2.2.2.2.2.2.2.1, by decide⟩
theorem d_L_2466 : decode YL.2.1 2466 = .ok (.iconst 1, 1) ∧ 2466 + 1 = 2467 := ⟨dB_old_26_m41_4_dec_0.2.2.2.2.2.2.2.2.2.2.2.2.2.2.2.2.2.2.2.2.2.2.2.2.2.2.2.2.1, by decide⟩
theorem d_L_2467 : decode YL.2.1 2467 = .ok (.iadd, 1) ∧ 2467 + 1 = 2468 := ⟨dB_old_26_m41_4_dec_0.2.2.2.2.2.2.2.2.2.2.2.2.2.2.2.2.2.2.2.2.2.2.2.2.2.2.2.2.2.1, by decide⟩
theorem dB_old_26_m41_4_dec_1 : dAll YL.2.1 [(2468, (.iaload, 1)), (2469, (.invokevirtual 242, 3)), (2472, (.pop, 1)), (2473, (.goto 1003, 3)), (2476, (.aload_n 1, 1)), (2477, (.aload_n 0, 1)), (2478, (.iload_n 3, 1)), (2479, (.iconst 1, 1)), (2480, (.iadd, 1)), (2481, (.iaload, 1)), (2482, (.aload_n 0, 1)), (2483, (.iload_n 3, 1)), (2484, (.iconst 2, 1)), (2485, (.iadd, 1)), (2486, (.iaload, 1)), (2487, (.aload_n 0, 1)), (2488, (.iload_n 3, 1)), (2489, (.iconst 3, 1)), (2490, (.iadd, 1)), (2491, (.iaload, 1)), (2492, (.invokevirtual 243, 3)), (2495, (.pop, 1)), (2496, (.aload_n 2, 1)), (2497, (.aload_n 0, 1)), (2498, (.iload_n 3, 1)), (2499, (.iconst 1, 1)), (2500, (.iadd, 1)), (2501, (.iaload, 1)), (2502, (.aload_n 0, 1)), (2503, (.iload_n 3, 1))] := dAll_of (by decide +kernel)
theorem d_L_2468 : decode YL.2.1 2468 = .ok (.iaload, 1) ∧ 2468 + 1 = 2469 := ⟨dB_old_26_m41_4_dec_1.1, by decide⟩
theorem d_L_2469 : decode YL.2.1 2469 = .ok (.invokevirtual 242, 3) ∧ 2469 + 3 = 2472 := ⟨dB_old_26_m41_4_dec_1.2.1, by decide⟩
theorem d_L_2472 : decode YL.2.1 2472 = .ok (.pop, 1) ∧ 2472 + 1 = 2473 := ⟨dB_old_26_m41_4_dec_1.2.2.1, by decide⟩
theorem d_L_2473 : decode YL.2.1 2473 = .ok (.goto 1003, 3) ∧ ((2473 : Nat) : Int) + 1003 = ((3476 : Nat) : Int) ∧ 2473 + 3 = 2476 := ⟨dB_old_26_m41_4_dec_1.2.2.2.1, by decide⟩
theorem d_L_2476 : decode YL.2.1 2476 = .ok (.aload_n 1, 1) ∧ 2476 + 1 = 2477 := ⟨dB_old_26_m41_4_dec_1.2.2.2.2.1, by decide⟩
theorem d_L_2477 : decode YL.2.1 2477 = .ok (.aload_n 0, 1) ∧ 2477 + 1 = 2478 := ⟨dB_old_26_m41_4_dec_1.2.2.2.2.2.1, by decide⟩
theorem d_L_2478 : decode YL.2.1 2478 = .ok (.iload_n 3, 1) ∧ 2478 + 1 = 2479 := ⟨dB_old_26_m41_4_dec_1.2.2.2.2.2.2.1, by decide⟩
theorem d_L_2479 : decode YL.2.1 2479 = .ok (.iconst 1, 1) ∧ 2479 + 1 = 2480 := ⟨dB_old_26_m41_4_dec_1.2.2.2.2.2.2.2.1, by decide⟩
theorem d_L_2480 : decode YL.2.1 2480 = .ok (.iadd, 1) ∧ 2480 + 1 = 2481 := ⟨dB_old_26_m41_4_dec_1.2.2.2.2.2.2.2.2.1, by decide⟩
theorem d_L_2481 : decode YL.2.1 2481 = .ok (.iaload, 1) ∧ 2481 + 1 = 2482 := ⟨dB_old_26_m41_4_dec_1.2.2.2.2.2.2.2.2.2.1, by decide⟩
theorem d_L_2482 : decode YL.2.1 2482 = .ok (.aload_n 0, 1) ∧ 2482 + 1 = 2483 := ⟨dB_old_26_m41_4_dec_1.2.2.2.2.2.2.2.2.2.2.1, by decide⟩
theorem d_L_2483 : decode YL.2.1 2483 = .ok (.iload_n 3, 1) ∧ 2483 + 1 = 2484 := ⟨dB_old_26_m41_4_dec_1.2.2.2.2.2.2.2.2.2.2.2.1, by decide⟩
theorem d_L_2484 : decode YL.2.1 2484 = .ok (.iconst 2, 1) ∧ 2484 + 1 = 2485 := ⟨dB_old_26_m41_4_dec_1.2.2.2.2.2.2.2.2.2.2.2.2.1, by decide⟩
theorem d_L_2485 : decode YL.2.1 2485 = .ok (.iadd, 1) ∧ 2485 + 1 = 2486 := ⟨dB_old_26_m41_4_dec_1.2.2.2.2.2.2.2.2.2.2.2.2.2.1, by decide⟩
theorem d_L_2486 : decode YL.2.1 2486 = .ok (.iaload, 1) ∧ 2486 + 1 = 2487 := ⟨dB_old_26_m41_4_dec_1.2.2.2.2.2.2.2.2.2.2.2.2.2.2.1, by decide⟩
theorem d_L_2487 : decode YL.2.1 2487 = .ok (.aload_n 0, 1) ∧ 2487 + 1 = 2488 := ⟨dB_old_26_m41_4_dec_1.2.2.2.2.2.2.2.2.2.2.2.2.2.2.2.1, by decide⟩
theorem d_L_2488 : decode YL.2.1 2488 = .ok (.iload_n 3, 1) ∧ 2488 + 1 = 2489 := ⟨dB_old_26_m41_4_dec_1.2.2.2.2.2.2.2.2.2.2.2.2.2.2.2.2.1, by decide⟩
theorem d_L_2489 : decode YL.2.1 2489 = .ok (.iconst 3, 1) ∧ 2489 + 1 = 2490 := ⟨dB_old_26_m41_4_dec_1.2.2.2.2.2.2.2.2.2.2.2.2.2.2.2.2.2.1, by decide⟩
theorem d_L_2490 : decode YL.2.1 2490 = .ok (.iadd, 1) ∧ 2490 + 1 = 2491 := ⟨dB_old_26_m41_4_dec_1.2.2.2.2.2.2.2.2.2.2.2.2.2.2.2.2.2.2.1, by decide⟩
theorem d_L_2491 : decode YL.2.1 2491 = .ok (.iaload, 1) ∧ 2491 + 1 = 2492 := ⟨dB_old_26_m41_4_dec_1.2.2.2.2.2.2.2.2.2.2.2.2.2.2.2.2.2.2.2.1, by decide⟩
theorem d_L_2492 : decode YL.2.1 2492 = .ok (.invokevirtual 243, 3) ∧ 2492 + 3 = 2495 := ⟨dB_old_26_m41_4_dec_1.2.2.2.2.2.2.2.2.2.2.2.2.2.2.2.2.2.2.2.2.1, by decide⟩
theorem d_L_2495 : decode YL.2.1 2495 = .ok (.pop, 1) ∧ 2495 + 1 = 2496 := ⟨dB_old_26_m41_4_dec_1.2.2.2.2.2.2.2.2.2.2.2.2.2.2.2.2.2.2.2.2.2.1, by decide⟩
theorem d_L_2496 : decode YL.2.1 2496 = .ok (.aload_n 2, 1) ∧ 2496 + 1 = 2497 := ⟨dB_old_26_m41_4_dec_1.2.2.2.2.2.2.2.2.2.2.2.2.2.2.2.2.2.2.2.2.2.2.1, by decide⟩
theorem d_L_2497 : decode YL.2.1 2497 = .ok (.aload_n 0, 1) ∧ 2497 + 1 = 2498 := ⟨dB_old_26_m41_4_dec_1.2.2.2.2.2.2.2.2.2.2.2.2.2.2.2.2.2.2.2.2.2.2.2.1, by decide⟩
theorem d_L_2498 : decode YL.2.1 2498 = .ok (.iload_n 3, 1) ∧ 2498 + 1 = 2499 := ⟨dB_old_26_m41_4_dec_1.2.2.2.2.2.2.2.2.2.2.2.2.2.2.2.2.2.2.2.2.2.2.2.2.1, by decide⟩
theorem d_L_2499 : decode YL.2.1 2499 = .ok (.iconst 1, 1) ∧ 2499 + 1 = 2500 := ⟨dB_old_26_m41_4_dec_1.2.2.2.2.2.2.2.2.2.2.2.2.2.2.2.2.2.2.2.2.2.2.2.2.2.1, by decide⟩
theorem d_L_2500 : decode YL.2.1 2500 = .ok (.iadd, 1) ∧ 2500 + 1 = 2501 := ⟨dB_old_26_m41_4_dec_1.2.2.2.2.2.2.2.2.2.2.2.2.2.2.2.2.2.2.2.2.2.2.2.2.2.2.1, by decide⟩
theorem d_L_2501 : decode YL.2.1 2501 = .ok (.iaload, 1) ∧ 2501 + 1 = 2502 := ⟨dB_old_26_m41_4_dec_1.2.2.2.2.2.2.2.2.2.2.2.2.2.2.2.2.2.2.2.2.2.2.2.2.2.2.2.1, by decide⟩
theorem d_L_2502 : decode YL.2.1 2502 = .ok (.aload_n 0, 1) ∧ 2502 + 1 = 2503 := ⟨dB_old_26_m41_4_dec_1.2.2.2.2.2.2.2.2.2.2.2.2.2.2.2.2.2.2.2.2.2.2.2.2.2.2.2.2.1, by decide⟩
theorem d_L_2503 : decode YL.2.1 2503 = .ok (.iload_n 3, 1) ∧ 2503 + 1 = 2504 := ⟨dB_old_26_m41_4_dec_1.2.2.2.2.2.2.2.2.2.2.2.2.2.2.2.2.2.2.2.2.2.2.2.2.2.2.2.2.2.1, by decide⟩
theorem dB_old_26_m41_4_dec_2 : dAll YL.2.1 [(2504, (.iconst 2, 1)), (2505, (.iadd, 1)), (2506, (.iaload, 1)), (2507, (.aload_n 0, 1)), (2508, (.iload_n 3, 1)), (2509, (.iconst 3, 1)), (2510, (.iadd, 1)), (2511, (.iaload, 1)), (2512, (.invokevirtual 246, 3)), (2515, (.pop, 1)), (2516, (.goto 960, 3)), (2519, (.aload_n 1, 1)), (2520, (.aload_n 0, 1)), (2521, (.iload_n 3, 1)), (2522, (.iconst 1, 1)), (2523, (.iadd, 1)), (2524, (.iaload, 1)), (2525, (.aload_n 0, 1)), (2526, (.iload_n 3, 1)), (2527, (.iconst 2, 1)), (2528, (.iadd, 1)), (2529, (.iaload, 1)), (2530, (.invokevirtual 247, 3)), (2533, (.pop, 1)), (2534, (.aload_n 2, 1)), (2535, (.aload_n 0, 1)), (2536, (.iload_n 3, 1)), (2537, (.iconst 1, 1)), (2538, (.iadd, 1)), (2539, (.iaload, 1))] := dAll_of (by decide +kernel)
theorem d_L_2504 : decode YL.2.1 2504 = .ok (.iconst 2, 1) ∧ 2504 + 1 = 2505 := ⟨dB_old_26_m41_4_dec_2.1, by decide⟩
theorem d_L_2505 : decode YL.2.1 2505 = .ok (.iadd, 1) ∧ 2505 + 1 = 2506 := ⟨dB_old_26_m41_4_dec_2.2.1, by decide⟩
theorem d_L_2506 : decode YL.2.1 2506 = .ok (.iaload, 1) ∧ 2506 + 1 = 2507 := ⟨dB_old_26_m41_4_dec_2.2.2.1, by decide⟩
theorem d_L_2507 : decode YL.2.1 2507 = .ok (.aload_n 0, 1) ∧ 2507 + 1 = 2508 := ⟨dB_old_26_m41_4_dec_2.2.2.2.1, by decide⟩
theorem d_L_2508 : decode YL.2.1 2508 = .ok (.iload_n 3, 1) ∧ 2508 + 1 = 2509 := ⟨dB_old_26_m41_4_dec_2.2.2.2.2.1, by decide⟩
theorem d_L_2509 : decode YL.2.1 2509 = .ok (.iconst 3, 1) ∧ 2509 + 1 = 2510 := ⟨dB_old_26_m41_4_dec_2.2.2.2.2.2.1, by decide⟩
theorem d_L_2510 : decode YL.2.1 2510 = .ok (.iadd, 1) ∧ 2510 + 1 = 2511 := ⟨dB_old_26_m41_4_dec_2.2.2.2.2.2.2.1, by decide⟩
theorem d_L_2511 : decode YL.2.1 2511 = .ok (.iaload, 1) ∧ 2511 + 1 = 2512 := ⟨dB_old_26_m41_4_dec_2.2.2.2.2.2.2.2.1, by decide⟩
theorem d_L_2512 : decode YL.2.1 2512 = .ok (.invokevirtual 246, 3) ∧ 2512 + 3 = 2515 := ⟨dB_old_26_m41_4_dec_2.2.2.2.2.2.2.2.2.1, by decide⟩
theorem d_L_2515 : decode YL.2.1 2515 = .ok (.pop, 1) ∧ 2515 + 1 = 2516 := ⟨dB_old_26_m41_4_dec_2.2.2.2.2.2.2.2.2.2.1, by decide⟩
theorem d_L_2516 : decode YL.2.1 2516 = .ok (.goto 960, 3) ∧ ((2516 : Nat) : Int) + 960 = ((3476 : Nat) : Int) ∧ 2516 + 3 = 2519 := ⟨dB_old_26_m41_4_dec_2.2.2.2.2.2.2.2.2.2.2.1, by decide⟩
theorem d_L_2519 : decode YL.2.1 2519 = .ok (.aload_n 1, 1) ∧ 2519 + 1 = 2520 := ⟨dB_old_26_m41_4_dec_2.2.2.2.2.2.2.2.2.2.2.2.1, by decide⟩
theorem d_L_2520 : decode YL.2.1 2520 = .ok (.aload_n 0, 1) ∧ 2520 + 1 = 2521 := ⟨dB_old_26_m41_4_dec_2.2.2.2.2.2.2.2.2.2.2.2.2.1, by decide⟩
theorem d_L_2521 : decode YL.2.1 2521 = .ok (.iload_n 3, 1) ∧ 2521 + 1 = 2522 := ⟨dB_old_26_m41_4_dec_2.2.2.2.2.2.2.2.2.2.2.2.2.2.1, by decide⟩
theorem d_L_2522 : decode YL.2.1 2522 = .ok (.iconst 1, 1) ∧ 2522 + 1 = 2523 := ⟨dB_old_26_m41_4_dec_2.2.2.2.2.2.2.2.2.2.2.2.2.2.2.1, by decide⟩
theorem d_L_2523 : decode YL.2.1 2523 = .ok (.iadd, 1) ∧ 2523 + 1 = 2524 := ⟨dB_old_26_m41_4_dec_2.2.2.2.2.2.2.2.2.2.2.2.2.2.2.2.1, by decide⟩
theorem d_L_2524 : decode YL.2.1 2524 = .ok (.iaload, 1) ∧ 2524 + 1 = 2525 := ⟨dB_old_26_m41_4_dec_2.2.2.2.2.2.2.2.2.2.2.2.2.2.2.2.2.1, by decide⟩
theorem d_L_2525 : decode YL.2.1 2525 = .ok (.aload_n 0, 1) ∧ 2525 + 1 = 2526 := ⟨dB_old_26_m41_4_dec_2.2.2.2.2.2.2.2.2.2.2.2.2.2.2.2.2.2.1, by decide⟩
theorem d_L_2526 : decode YL.2.1 2526 = .ok (.iload_n 3, 1) ∧ 2526 + 1 = 2527 := ⟨dB_old_26_m41_4_dec_2.2.2.2.2.2.2.2.2.2.2.2.2.2.2.2.2.2.2.1, by decide⟩
theorem d_L_2527 : decode YL.2.1 2527 = .ok (.iconst 2, 1) ∧ 2527 + 1 = 2528 := ⟨dB_old_26_m41_4_dec_2.2.2.2.2.2.2.2.2.2.2.2.2.2.2.2.2.2.2.2.1, by decide⟩
theorem d_L_2528 : decode YL.2.1 2528 = .ok (.iadd, 1) ∧ 2528 + 1 = 2529 := ⟨dB_old_26_m41_4_dec_2.2.2.2.2.2.2.2.2.2.2.2.2.2.2.2.2.2.2.2.2.1, by decide⟩
theorem d_L_2529 : decode YL.2.1 2529 = .ok (.iaload, 1) ∧ 2529 + 1 = 2530 := ⟨dB_old_26_m41_4_dec_2.2.2.2.2.2.2.2.2.2.2.2.2.2.2.2.2.2.2.2.2.2.1, by decide⟩
theorem d_L_2530 : decode YL.2.1 2530 = .ok (.invokevirtual 247, 3) ∧ 2530 + 3 = 2533 := ⟨dB_old_26_m41_4_dec_2.2.2.2.2.2.2.2.2.2.2.2.2.2.2.2.2.2.2.2.2.2.2.1, by decide⟩
theorem d_L_2533 : decode YL.2.1 2533 = .ok (.pop, 1) ∧ 2533 + 1 = 2534 := ⟨dB_old_26_m41_4_dec_2.2.2.2.2.2.2.2.2.2.2.2.2.2.2.2.2.2.2.2.2.2.2.2.1, by decide⟩
theorem d_L_2534 : decode YL.2.1 2534 = .ok (.aload_n 2, 1) ∧ 2534 + 1 = 2535 := ⟨dB_old_26_m41_4_dec_2.2.2.2.2.2.2.2.2.2.2.2.2.2.2.2.2.2.2.2.2.2.2.2.2.1, by decide⟩
theorem d_L_2535 : decode YL.2.1 2535 = .ok (.aload_n 0, 1) ∧ 2535 + 1 = 2536 := ⟨dB_old_26_m41_4_dec_2.2.2.2.2.2.2.2.2.2.2.2.2.2.2.2.2.2.2.2.2.2.2.2.2.2.1, by decide⟩
theorem d_L_2536 : decode YL.2.1 2536 = .ok (.iload_n 3, 1) ∧ 2536 + 1 = 2537 := ⟨dB_old_26_m41_4_dec_2.2.2.2.2.2.2.2.2.2.2.2.2.2.2.2.2.2.2.2.2.2.2.2.2.2.2.1, by decide⟩
theorem d_L_2537 : decode YL.2.1 2537 = .ok (.iconst 1, 1) ∧ 2537 + 1 = 2538 := ⟨dB_old_26_m41_4_dec_2.2.2.2.2.2.2.2.2.2.2.2.2.2.2.2.2.2.2.2.2.2.2.2.2.2.2.2.1, by decide⟩
theorem d_L_2538 : decode YL.2.1 2538 = .ok (.iadd, 1) ∧ 2538 + 1 = 2539 := ⟨dB_old_26_m41_4_dec_2.2.2.2.2.2.2.2.2.2.2.2.2.2.2.2.2.2.2.2.2.2.2.2.2.2.2.2.2.1, by decide⟩
theorem d_L_2539 : decode YL.2.1 2539 = .ok (.iaload, 1) ∧ 2539 + 1 = 2540 := ⟨dB_old_26_m41_4_dec_2.2.2.2.2.2.2.2.2.2.2.2.2.2.2.2.2.2.2.2.2.2.2.2.2.2.2.2.2.2.1, by decide⟩
theorem dB_old_26_m41_4_dec_3 : dAll YL.2.1 [(2540, (.aload_n 0, 1)), (2541, (.iload_n 3, 1)), (2542, (.iconst 2, 1)), (2543, (.iadd, 1)), (2544, (.iaload, 1)), (2545, (.invokevirtual 250, 3)), (2548, (.pop, 1)), (2549, (.goto 927, 3)), (2552, (.aload_n 1, 1)), (2553, (.aload_n 0, 1)), (2554, (.iload_n 3, 1)), (2555, (.iconst 1, 1)), (2556, (.iadd, 1)), (2557, (.iaload, 1)), (2558, (.aload_n 0, 1)), (2559, (.iload_n 3, 1)), (2560, (.iconst 2, 1)), (2561, (.iadd, 1)), (2562, (.iaload, 1)), (2563, (.aload_n 0, 1)), (2564, (.iload_n 3, 1)), (2565, (.iconst 3, 1)), (2566, (.iadd, 1)), (2567, (.iaload, 1)), (2568, (.invokevirtual 251, 3)), (2571, (.pop, 1)), (2572, (.aload_n 2, 1)), (2573, (.aload_n 0, 1)), (2574, (.iload_n 3, 1)), (2575, (.iconst 1, 1))] := dAll_of (by decide +kernel)
theorem d_L_2540 : decode YL.2.1 2540 = .ok (.aload_n 0, 1) ∧ 2540 + 1 = 2541 := ⟨dB_old_26_m41_4_dec_3.1, by decide⟩
theorem d_L_2541 : decode YL.2.1 2541 = .ok (.iload_n 3, 1) ∧ 2541 + 1 = 2542 := ⟨dB_old_26_m41_4_dec_3.2.1, by decide⟩
theorem d_L_2542 : decode YL.2.1 2542 = .ok (.iconst 2, 1) ∧ 2542 + 1 = 2543 := ⟨dB_old_26_m41_4_dec_3.2.2.1, by decide⟩
theorem d_L_2543 : decode YL.2.1 2543 = .ok (.iadd, 1) ∧ 2543 + 1 = 2544 := ⟨dB_old_26_m41_4_dec_3.2.2.2.1, by decide⟩
theorem d_L_2544 : decode YL.2.1 2544 = .ok (.iaload, 1) ∧ 2544 + 1 = 2545 := ⟨dB_old_26_m41_4_dec_3.2.2.2.2.1, by decide⟩
theorem d_L_2545 : decode YL.2.1 2545 = .ok (.invokevirtual 250, 3) ∧ 2545 + 3 = 2548 := ⟨dB_old_26_m41_4_dec_3.2.2.2.2.2.1, by decide⟩
theorem d_L_2548 : decode YL.2.1 2548 = .ok (.pop, 1) ∧ 2548 + 1 = 2549 := ⟨dB_old_26_m41_4_dec_3.2.2.2.2.2.2.1, by decide⟩
theorem d_L_2549 : decode YL.2.1 2549 = .ok (.goto 927, 3) ∧ ((2549 : Nat) : Int) + 927 = ((3476 : Nat) : Int) ∧ 2549 + 3 = 2552 := ⟨dB_old_26_m41_4_dec_3.2.2.2.2.2.2.2.1, by decide⟩
theorem d_L_2552 : decode YL.2.1 2552 = .ok (.aload_n 1, 1) ∧ 2552 + 1 = 2553 := ⟨dB_old_26_m41_4_dec_3.2.2.2.2.2.2.2.2.1, by decide⟩
theorem d_L_2553 : decode YL.2.1 2553 = .ok (.aload_n 0, 1) ∧ 2553 + 1 = 2554 := ⟨dB_old_26_m41_4_dec_3.2.2.2.2.2.2.2.2.2.1, by decide⟩
theorem d_L_2554 : decode YL.2.1 2554 = .ok (.iload_n 3, 1) ∧ 2554 + 1 = 2555 := ⟨dB_old_26_m41_4_dec_3.2.2.2.2.2.2.2.2.2.2.1, by decide⟩
theorem d_L_2555 : decode YL.2.1 2555 = .ok (.iconst 1, 1) ∧ 2555 + 1 = 2556 := ⟨dB_old_26_m41_4_dec_3.2.2.2.2.2.2.2.2.2.2.2.1, by decide⟩
theorem d_L_2556 : decode YL.2.1 2556 = .ok (.iadd, 1) ∧ 2556 + 1 = 2557 := ⟨dB_old_26_m41_4_dec_3.2.2.2.2.2.2.2.2.2.2.2.2.1, by decide⟩
theorem d_L_2557 : decode YL.2.1 2557 = .ok (.iaload, 1) ∧ 2557 + 1 = 2558 := ⟨dB_old_26_m41_4_dec_3.2.2.2.2.2.2.2.2.2.2.2.2.2.1, by decide⟩
theorem d_L_2558 : decode YL.2.1 2558 = .ok (.aload_n 0, 1) ∧ 2558 + 1 = 2559 := ⟨dB_old_26_m41_4_dec_3.2.2.2.2.2.2.2.2.2.2.2.2.2.2.1, by decide⟩
theorem d_L_2559 : decode YL.2.1 2559 = .ok (.iload_n 3, 1) ∧ 2559 + 1 = 2560 := ⟨dB_old_26_m41_4_dec_3.2.2.2.2.2.2.2.2.2.2.2.2.2.2.2.1, by decide⟩
theorem d_L_2560 : decode YL.2.1 2560 = .ok (.iconst 2, 1) ∧ 2560 + 1 = 2561 := ⟨dB_old_26_m41_4_dec_3.2.2.2.2.2.2.2.2.2.2.2.2.2.2.2.2.1, by decide⟩
theorem d_L_2561 : decode YL.2.1 2561 = .ok (.iadd, 1) ∧ 2561 + 1 = 2562 := ⟨dB_old_26_m41_4_dec_3.2.2.2.2.2.2.2.2.2.2.2.2.2.2.2.2.2.1, by decide⟩
theorem d_L_2562 : decode YL.2.1 2562 = .ok (.iaload, 1) ∧ 2562 + 1 = 2563 := ⟨dB_old_26_m41_4_dec_3.2.2.2.2.2.2.2.2.2.2.2.2.2.2.2.2.2.2.1, by decide⟩
theorem d_L_2563 : decode YL.2.1 2563 = .ok (.aload_n 0, 1) ∧ 2563 + 1 = 2564 := ⟨dB_old_26_m41_4_dec_3.2.2.2.2.2.2.2.2.2.2.2.2.2.2.2.2.2.2.2.1, by decide⟩
theorem d_L_2564 : decode YL.2.1 2564 = .ok (.iload_n 3, 1) ∧ 2564 + 1 = 2565 := ⟨dB_old_26_m41_4_dec_3.2.2.2.2.2.2.2.2.2.2.2.2.2.2.2.2.2.2.2.2.1, by decide⟩
theorem d_L_2565 : decode YL.2.1 2565 = .ok (.iconst 3, 1) ∧ 2565 + 1 = 2566 := ⟨dB_old_26_m41_4_dec_3.2.2.2.2.2.2.2.2.2.2.2.2.2.2.2.2.2.2.2.2.2.1, by decide⟩
theorem d_L_2566 : decode YL.2.1 2566 = .ok (.iadd, 1) ∧ 2566 + 1 = 2567 := ⟨dB_old_26_m41_4_dec_3.2.2.2.2.2.2.2.2.2.2.2.2.2.2.2.2.2.2.2.2.2.2.1, by decide⟩
theorem d_L_2567 : decode YL.2.1 2567 = .ok (.iaload, 1) ∧ 2567 + 1 = 2568 := ⟨dB_old_26_m41_4_dec_3.2.2.2.2.2.2.2.2.2.2.2.2.2.2.2.2.2.2.2.2.2.2.2.1, by decide⟩
theorem d_L_2568 : decode YL.2.1 2568 = .ok (.invokevirtual 251, 3) ∧ 2568 + 3 = 2571 := ⟨dB_old_26_m41_4_dec_3.2.2.2.2.2.2.2.2.2.2.2.2.2.2.2.2.2.2.2.2.2.2.2.2.1, by decide⟩
theorem d_L_2571 : decode YL.2.1 2571 = .ok (.pop, 1) ∧ 2571 + 1 = 2572 := ⟨dB_old_26_m41_4_dec_3.2.2.2.2.2.2.2.2.2.2.2.2.2.2.2.2.2.2.2.2.2.2.2.2.2.1, by decide⟩
theorem d_L_2572 : decode YL.2.1 2572 = .ok (.aload_n 2, 1) ∧ 2572 + 1 = 2573 := ⟨dB_old_26_m41_4_dec_3.2.2.2.2.2.2.2.2.2.2.2.2.2.2.2.2.2.2.2.2.2.2.2.2.2.2.1, by decide⟩
theorem d_L_2573 : decode YL.2.1 2573 = .ok (.aload_n 0, 1) ∧ 2573 + 1 = 2574 := ⟨dB_old_26_m41_4_dec_3.2.2.2.2.2.2.2.2.2.2.2.2.2.2.2.2.2.2.2.2.2.2.2.2.2.2.2.1, by decide⟩
theorem d_L_2574 : decode YL.2.1 2574 = .ok (.iload_n 3, 1) ∧ 2574 + 1 = 2575 := ⟨dB_old_26_m41_4_dec_3.2.2.2.2.2.2.2.2.2.2.2.2.2.2.2.2.2.2.2.2.2.2.2.2.2.2.2.2.1, by decide⟩
theorem d_L_2575 : decode YL.2.1 2575 = .ok (.iconst 1, 1) ∧ 2575 + 1 = 2576 := ⟨dB_old_26_m41_4_dec_3.2.2.2.2.2.2.2.2.2.2.2.2.2.2.2.2.2.2.2.2.2.2.2.2.2.2.2.2.2.1, by decide⟩
theorem dB_old_26_m41_4_dec_4 : dAll YL.2.1 [(2576, (.iadd, 1)), (2577, (.iaload, 1)), (2578, (.aload_n 0, 1)), (2579, (.iload_n 3, 1)), (2580, (.iconst 2, 1)), (2581, (.iadd, 1)), (2582, (.iaload, 1)), (2583, (.aload_n 0, 1)), (2584, (.iload_n 3, 1)), (2585, (.iconst 3, 1)), (2586, (.iadd, 1)), (2587, (.iaload, 1)), (2588, (.invokevirtual 254, 3)), (2591, (.pop, 1)), (2592, (.goto 884, 3)), (2595, (.aload_n 1, 1)), (2596, (.aload_n 0, 1)), (2597, (.iload_n 3, 1)), (2598, (.iconst 1, 1)), (2599, (.iadd, 1)), (2600, (.iaload, 1)), (2601, (.aload_n 0, 1)), (2602, (.iload_n 3, 1)), (2603, (.iconst 2, 1)), (2604, (.iadd, 1)), (2605, (.iaload, 1)), (2606, (.aload_n 0, 1)), (2607, (.iload_n 3, 1)), (2608, (.iconst 3, 1)), (2609, (.iadd, 1))] := dAll_of (by decide +kernel)
theorem d_L_2576 : decode YL.2.1 2576 = .ok (.iadd, 1) ∧ 2576 + 1 = 2577 := ⟨dB_old_26_m41_4_dec_4.1, by decide⟩
theorem d_L_2577 : decode YL.2.1 2577 = .ok (.iaload, 1) ∧ 2577 + 1 = 2578 := ⟨dB_old_26_m41_4_dec_4.2.1, by decide⟩
theorem d_L_2578 : decode YL.2.1 2578 = .ok (.aload_n 0, 1) ∧ 2578 + 1 = 2579 := ⟨dB_old_26_m41_4_dec_4.2.2.1, by decide⟩
theorem d_L_2579 : decode YL.2.1 2579 = .ok (.iload_n 3, 1) ∧ 2579 + 1 = 2580 := ⟨dB_old_26_m41_4_dec_4.2.2.2.1, by decide⟩
theorem d_L_2580 : decode YL.2.1 2580 = .ok (.iconst 2, 1) ∧ 2580 + 1 = 2581 := ⟨dB_old_26_m41_4_dec_4.2.2.2.2.1, by decide⟩
theorem d_L_2581 : decode YL.2.1 2581 = .ok (.iadd, 1) ∧ 2581 + 1 = 2582 := ⟨dB_old_26_m41_4_dec_4.2.2.2.2.2.1, by decide⟩
theorem d_L_2582 : decode YL.2.1 2582 = .ok (.iaload, 1) ∧ 2582 + 1 = 2583 := ⟨dB_old_26_m41_4_dec_4.2.2.2.2.2.2.1, by decide⟩
theorem d_L_2583 : decode YL.2.1 2583 = .ok (.aload_n 0, 1) ∧ 2583 + 1 = 2584 := ⟨dB_old_26_m41_4_dec_4.2.2.2.2.2.2.2.1, by decide⟩
theorem d_L_2584 : decode YL.2.1 2584 = .ok (.iload_n 3, 1) ∧ 2584 + 1 = 2585 := ⟨dB_old_26_m41_4_dec_4.2.2.2.2.2.2.2.2.1, by decide⟩
theorem d_L_2585 : decode YL.2.1 2585 = .ok (.iconst 3, 1) ∧ 2585 + 1 = 2586 := ⟨dB_old_26_m41_4_dec_4.2.2.2.2.2.2.2.2.2.1, by decide⟩
theorem d_L_2586 : decode YL.2.1 2586 = .ok (.iadd, 1) ∧ 2586 + 1 = 2587 := ⟨dB_old_26_m41_4_dec_4.2.2.2.2.2.2.2.2.2.2.1, by decide⟩
theorem d_L_2587 : decode YL.2.1 2587 = .ok (.iaload, 1) ∧ 2587 + 1 = 2588 := ⟨dB_old_26_m41_4_dec_4.2.2.2.2.2.2.2.2.2.2.2.1, by decide⟩
theorem d_L_2588 : decode YL.2.1 2588 = .ok (.invokevirtual 254, 3) ∧ 2588 + 3 = 2591 := ⟨dB_old_26_m41_4_dec_4.2.2.2.2.2.2.2.2.2.2.2.2.1, by decide⟩
theorem d_L_2591 : decode YL.2.1 2591 = .ok (.pop, 1) ∧ 2591 + 1 = 2592 := ⟨dB_old_26_m41_4_dec_4.2.2.2.2.2.2.2.2.2.2.2.2.2.1, by decide⟩
theorem d_L_2592 : decode YL.2.1 2592 = .ok (.goto 884, 3) ∧ ((2592 : Nat) : Int) + 884 = ((3476 : Nat) : Int) ∧ 2592 + 3 = 2595 := ⟨dB_old_26_m41_4_dec_4.2.2.2.2.2.2.2.2.2.2.2.2.2.2.1, by decide⟩
theorem d_L_2595 : decode YL.2.1 2595 = .ok (.aload_n 1, 1) ∧ 2595 + 1 = 2596 := ⟨dB_old_26_m41_4_dec_4.2.2.2.2.2.2.2.2.2.2.2.2.2.2.2.1, by decide⟩
theorem d_L_2596 : decode YL.2.1 2596 = .ok (.aload_n 0, 1) ∧ 2596 + 1 = 2597 := ⟨dB_old_26_m41_4_dec_4.2.2.2.2.2.2.2.2.2.2.2.2.2.2.2.2.1, by decide⟩
theorem d_L_2597 : decode YL.2.1 2597 = .ok (.iload_n 3, 1) ∧ 2597 + 1 = 2598 := ⟨dB_old_26_m41_4_dec_4.2.2.2.2.2.2.2.2.2.2.2.2.2.2.2.2.2.1, by decide⟩
theorem d_L_2598 : decode YL.2.1 2598 = .ok (.iconst 1, 1) ∧ 2598 + 1 = 2599 := ⟨dB_old_26_m41_4_dec_4.2.2.2.2.2.2.2.2.2.2.2.2.2.2.2.2.2.2.1, by decide⟩
theorem d_L_2599 : decode YL.2.1 2599 = .ok (.iadd, 1) ∧ 2599 + 1 = 2600 := ⟨dB_old_26_m41_4_dec_4.2.2.2.2.2.2.2.2.2.2.2.2.2.2.2.2.2.2.2.1, by decide⟩
theorem d_L_2600 : decode YL.2.1 2600 = .ok (.iaload, 1) ∧ 2600 + 1 = 2601 := ⟨dB_old_26_m41_4_dec_4.2.2.2.2.2.2.2.2.2.2.2.2.2.2.2.2.2.2.2.2.1, by decide⟩
theorem d_L_2601 : decode YL.2.1 2601 = .ok (.aload_n 0, 1) ∧ 2601 + 1 = 2602 := ⟨dB_old_26_m41_4_dec_4.2.2.2.2.2.2.2.2.2.2.2.2.2.2.2.2.2.2.2.2.2.1, by decide⟩
theorem d_L_2602 : decode YL.2.1 2602 = .ok (.iload_n 3, 1) ∧ 2602 + 1 = 2603 := ⟨dB_old_26_m41_4_dec_4.2.2.2.2.2.2.2.2.2.2.2.2.2.2.2.2.2.2.2.2.2.2.1, by decide⟩
theorem d_L_2603 : decode YL.2.1 2603 = .ok (.iconst 2, 1) ∧ 2603 + 1 = 2604 := ⟨dB_old_26_m41_4_dec_4.2.2.2.2.2.2.2.2.2.2.2.2.2.2.2.2.2.2.2.2.2.2.2.1, by decide⟩
theorem d_L_2604 : decode YL.2.1 2604 = .ok (.iadd, 1) ∧ 2604 + 1 = 2605 := ⟨dB_old_26_m41_4_dec_4.2.2.2.2.2.2.2.2.2.2.2.2.2.2.2.2.2.2.2.2.2.2.2.2.1, by decide⟩
theorem d_L_2605 : decode YL.2.1 2605 = .ok (.iaload, 1) ∧ 2605 + 1 = 2606 := ⟨dB_old_26_m41_4_dec_4.2.2.2.2.2.2.2.2.2.2.2.2.2.2.2.2.2.2.2.2.2.2.2.2.2.1, by decide⟩
theorem d_L_2606 : decode YL.2.1 2606 = .ok (.aload_n 0, 1) ∧ 2606 + 1 = 2607 := ⟨dB_old_26_m41_4_dec_4.2.2.2.2.2.2.2.2.2.2.2.2.2.2.2.2.2.2.2.2.2.2.2.2.2.2.1, by decide⟩
theorem d_L_2607 : decode YL.2.1 2607 = .ok (.iload_n 3, 1) ∧ 2607 + 1 = 2608 := ⟨dB_old_26_m41_4_dec_4.2.2.2.2.2.2.2.2.2.2.2.2.2.2.2.2.2.2.2.2.2.2.2.2.2.2.2.1, by decide⟩
theorem d_L_2608 : decode YL.2.1 2608 = .ok (.iconst 3, 1) ∧ 2608 + 1 = 2609 := ⟨dB_old_26_m41_4_dec_4.2.2.2.2.2.2.2.2.2.2.2.2.2.2.2.2.2.2.2.2.2.2.2.2.2.2.2.2.1, by decide⟩
theorem d_L_2609 : decode YL.2.1 2609 = .ok (.iadd, 1) ∧ 2609 + 1 = 2610 := ⟨dB_old_26_m41_4_dec_4.2.2.2.2.2.2.2.2.2.2.2.2.2.2.2.2.2.2.2.2.2.2.2.2.2.2.2.2.2.1, by decide⟩
theorem dB_old_26_m41_4_dec_5 : dAll YL.2.1 [(2610, (.iaload, 1)), (2611, (.invokevirtual 255, 3)), (2614, (.pop, 1)), (2615, (.aload_n 2, 1)), (2616, (.aload_n 0, 1)), (2617, (.iload_n 3, 1)), (2618, (.iconst 1, 1)), (2619, (.iadd, 1)), (2620, (.iaload, 1)), (2621, (.aload_n 0, 1)), (2622, (.iload_n 3, 1)), (2623, (.iconst 2, 1)), (2624, (.iadd, 1)), (2625, (.iaload, 1)), (2626, (.aload_n 0, 1)), (2627, (.iload_n 3, 1)), (2628, (.iconst 3, 1)), (2629, (.iadd, 1)), (2630, (.iaload, 1)), (2631, (.invokevirtual 258, 3)), (2634, (.pop, 1)), (2635, (.goto 841, 3)), (2638, (.aload_n 1, 1)), (2639, (.aload_n 0, 1)), (2640, (.iload_n 3, 1)), (2641, (.iconst 1, 1)), (2642, (.iadd, 1)), (2643, (.iaload, 1)), (2644, (.aload_n 0, 1)), (2645, (.iload_n 3, 1))] := dAll_of (by decide +kernel)
theorem d_L_2610 : decode YL.2.1 2610 = .ok (.iaload, 1) ∧ 2610 + 1 = 2611 := ⟨dB_old_26_m41_4_dec_5.1, by decide⟩
theorem d_L_2611 : decode YL.2.1 2611 = .ok (.invokevirtual 255, 3) ∧ 2611 + 3 = 2614 := ⟨dB_old_26_m41_4_dec_5.2.1, by decide⟩
theorem d_L_2614 : decode YL.2.1 2614 = .ok (.pop, 1) ∧ 2614 + 1 = 2615 := ⟨dB_old_26_m41_4_dec_5.2.2.1, by decide⟩
theorem d_L_2615 : decode YL.2.1 2615 = .ok (.aload_n 2, 1) ∧ 2615 + 1 = 2616 := ⟨dB_old_26_m41_4_dec_5.2.2.2.1, by decide⟩
theorem d_L_2616 : decode YL.2.1 2616 = .ok (.aload_n 0, 1) ∧ 2616 + 1 = 2617 := ⟨dB_old_26_m41_4_dec_5.2.2.2.2.1, by decide⟩
theorem d_L_2617 : decode YL.2.1 2617 = .ok (.iload_n 3, 1) ∧ 2617 + 1 = 2618 := ⟨dB_old_26_m41_4_dec_5.2.2.2.2.2.1, by decide⟩
theorem d_L_2618 : decode YL.2.1 2618 = .ok (.iconst 1, 1) ∧ 2618 + 1 = 2619 := ⟨dB_old_26_m41_4_dec_5.2.2.2.2.2.2.1, by decide⟩
theorem d_L_2619 : decode YL.2.1 2619 = .ok (.iadd, 1) ∧ 2619 + 1 = 2620 := ⟨dB_old_26_m41_4_dec_5.2.2.2.2.2.2.2.1, by decide⟩
theorem d_L_2620 : decode YL.2.1 2620 = .ok (.iaload, 1) ∧ 2620 + 1 = 2621 := ⟨dB_old_26_m41_4_dec_5.2.2.2.2.2.2.2.2.1, by decide⟩
theorem d_L_2621 : decode YL.2.1 2621 = .ok (.aload_n 0, 1) ∧ 2621 + 1 = 2622 := ⟨dB_old_26_m41_4_dec_5.2.2.2.2.2.2.2.2.2.1, by decide⟩
theorem d_L_2622 : decode YL.2.1 2622 = .ok (.iload_n 3, 1) ∧ 2622 + 1 = 2623 := ⟨dB_old_26_m41_4_dec_5.2.2.2.2.2.2.2.2.2.2.1, by decide⟩
theorem d_L_2623 : decode YL.2.1 2623 = .ok (.iconst 2, 1) ∧ 2623 + 1 = 2624 := ⟨dB_old_26_m41_4_dec_5.2.2.2.2.2.2.2.2.2.2.2.1, by decide⟩
theorem d_L_2624 : decode YL.2.1 2624 = .ok (.iadd, 1) ∧ 2624 + 1 = 2625 := ⟨dB_old_26_m41_4_dec_5.2.2.2.2.2.2.2.2.2.2.2.2.1, by decide⟩
theorem d_L_2625 : decode YL.2.1 2625 = .ok (.iaload, 1) ∧ 2625 + 1 = 2626 := ⟨dB_old_26_m41_4_dec_5.2.2.2.2.2.2.2.2.2.2.2.2.2.1, by decide⟩
theorem d_L_2626 : decode YL.2.1 2626 = .ok (.aload_n 0, 1) ∧ 2626 + 1 = 2627 := ⟨dB_old_26_m41_4_dec_5.2.2.2.2.2.2.2.2.2.2.2.2.2.2.1, by decide⟩
theorem d_L_2627 : decode YL.2.1 2627 = .ok (.iload_n 3, 1) ∧ 2627 + 1 = 2628 := ⟨dB_old_26_m41_4_dec_5.2.2.2.2.2.2.2.2.2.2.2.2.2.2.2.1, by decide⟩
theorem d_L_2628 : decode YL.2.1 2628 = .ok (.iconst 3, 1) ∧ 2628 + 1 = 2629 := ⟨dB_old_26_m41_4_dec_5.2.2.2.2.2.2.2.2.2.2.2.2.2.2.2.2.1, by decide⟩
theorem d_L_2629 : decode YL.2.1 2629 = .ok (.iadd, 1) ∧ 2629 + 1 = 2630 := ⟨dB_old_26_m41_4_dec_5.2.2.2.2.2.2.2.2.2.2.2.2.2.2.2.2.2.1, by decide⟩
theorem d_L_2630 : decode YL.2.1 2630 = .ok (.iaload, 1) ∧ 2630 + 1 = 2631 := ⟨dB_old_26_m41_4_dec_5.2.2.2.2.2.2.2.2.2.2.2.2.2.2.2.2.2.2.1, by decide⟩
theorem d_L_2631 : decode YL.2.1 2631 = .ok (.invokevirtual 258, 3) ∧ 2631 + 3 = 2634 := ⟨dB_old_26_m41_4_dec_5.2.2.2.2.2.2.2.2.2.2.2.2.2.2.2.2.2.2.2.1, by decide⟩
theorem d_L_2634 : decode YL.2.1 2634 = .ok (.pop, 1) ∧ 2634 + 1 = 2635 := ⟨dB_old_26_m41_4_dec_5.2.2.2.2.2.2.2.2.2.2.2.2.2.2.2.2.2.2.2.2.1, by decide⟩
theorem d_L_2635 : decode YL.2.1 2635 = .ok (.goto 841, 3) ∧ ((2635 : Nat) : Int) + 841 = ((3476 : Nat) : Int) ∧ 2635 + 3 = 2638 := ⟨dB_old_26_m41_4_dec_5.2.2.2.2.2.2.2.2.2.2.2.2.2.2.2.2.2.2.2.2.2.1, by decide⟩
theorem d_L_2638 : decode YL.2.1 2638 = .ok (.aload_n 1, 1) ∧ 2638 + 1 = 2639 := ⟨dB_old_26_m41_4_dec_5.2.2.2.2.2.2.2.2.2.2.2.2.2.2.2.2.2.2.2.2.2.2.1, by decide⟩
theorem d_L_2639 : decode YL.2.1 2639 = .ok (.aload_n 0, 1) ∧ 2639 + 1 = 2640 := ⟨dB_old_26_m41_4_dec_5.2.2.2.2.2.2.2.2.2.2.2.2.2.2.2.2.2.2.2.2.2.2.2.1, by decide⟩
theorem d_L_2640 : decode YL.2.1 2640 = .ok (.iload_n 3, 1) ∧ 2640 + 1 = 2641 := ⟨dB_old_26_m41_4_dec_5.2.2.2.2.2.2.2.2.2.2.2.2.2.2.2.2.2.2.2.2.2.2.2.2.1, by decide⟩
theorem d_L_2641 : decode YL.2.1 2641 = .ok (.iconst 1, 1) ∧ 2641 + 1 = 2642 := ⟨dB_old_26_m41_4_dec_5.2.2.2.2.2.2.2.2.2.2.2.2.2.2.2.2.2.2.2.2.2.2.2.2.2.1, by decide⟩
theorem d_L_2642 : decode YL.2.1 2642 = .ok (.iadd, 1) ∧ 2642 + 1 = 2643 := ⟨dB_old_26_m41_4_dec_5.2.2.2.2.2.2.2.2.2.2.2.2.2.2.2.2.2.2.2.2.2.2.2.2.2.2.1, by decide⟩
theorem d_L_2643 : decode YL.2.1 2643 = .ok (.iaload, 1) ∧ 2643 + 1 = 2644 := ⟨dB_old_26_m41_4_dec_5.2.2.2.2.2.2.2.2.2.2.2.2.2.2.2.2.2.2.2.2.2.2.2.2.2.2.2.1, by decide⟩
theorem d_L_2644 : decode YL.2.1 2644 = .ok (.aload_n 0, 1) ∧ 2644 + 1 = 2645 := ⟨dB_old_26_m41_4_dec_5.2.2.2.2.2.2.2.2.2.2.2.2.2.2.2.2.2.2.2.2.2.2.2.2.2.2.2.2.1, by decide⟩
theorem d_L_2645 : decode YL.2.1 2645 = .ok (.iload_n 3, 1) ∧ 2645 + 1 = 2646 := ⟨dB_old_26_m41_4_dec_5.2.2.2.2.2.2.2.2.2.2.2.2.2.2.2.2.2.2.2.2.2.2.2.2.2.2.2.2.2.1, by decide⟩
theorem dB_old_26_m41_4_dec_6 : dAll YL.2.1 [(2646, (.iconst 2, 1)), (2647, (.iadd, 1)), (2648, (.iaload, 1)), (2649, (.invokevirtual 259, 3)), (2652, (.pop, 1)), (2653, (.aload_n 2, 1)), (2654, (.aload_n 0, 1)), (2655, (.iload_n 3, 1)), (2656, (.iconst 1, 1)), (2657, (.iadd, 1)), (2658, (.iaload, 1)), (2659, (.aload_n 0, 1)), (2660, (.iload_n 3, 1)), (2661, (.iconst 2, 1)), (2662, (.iadd, 1)), (2663, (.iaload, 1)), (2664, (.invokevirtual 262, 3)), (2667, (.pop, 1)), (2668, (.goto 808, 3)), (2671, (.aload_n 1, 1)), (2672, (.aload_n 0, 1)), (2673, (.iload_n 3, 1)), (2674, (.iconst 1, 1)), (2675, (.iadd, 1)), (2676, (.iaload, 1)), (2677, (.aload_n 0, 1)), (2678, (.iload_n 3, 1)), (2679, (.iconst 2, 1)), (2680, (.iadd, 1)), (2681, (.iaload, 1))] := dAll_of (by decide +kernel)
theorem d_L_2646 : decode YL.2.1 2646 = .ok (.iconst 2, 1) ∧ 2646 + 1 = 2647 := ⟨dB_old_26_m41_4_dec_6.1, by decide⟩
theorem d_L_2647 : decode YL.2.1 2647 = .ok (.iadd, 1) ∧ 2647 + 1 = 2648 := ⟨dB_old_26_m41_4_dec_6.2.1, by decide⟩
theorem d_L_2648 : decode YL.2.1 2648 = .ok (.iaload, 1) ∧ 2648 + 1 = 2649 := ⟨dB_old_26_m41_4_dec_6.2.2.1, by decide⟩
theorem d_L_2649 : decode YL.2.1 2649 = .ok (.invokevirtual 259, 3) ∧ 2649 + 3 = 2652 := ⟨dB_old_26_m41_4_dec_6.2.2.2.1, by decide⟩
theorem d_L_2652 : decode YL.2.1 2652 = .ok (.pop, 1) ∧ 2652 + 1 = 2653 := ⟨dB_old_26_m41_4_dec_6.2.2.2.2.1, by decide⟩
theorem d_L_2653 : decode YL.2.1 2653 = .ok (.aload_n 2, 1) ∧ 2653 + 1 = 2654 := ⟨dB_old_26_m41_4_dec_6.2.2.2.2.2.1, by decide⟩
theorem d_L_2654 : decode YL.2.1 2654 = .ok (.aload_n 0, 1) ∧ 2654 + 1 = 2655 := ⟨dB_old_26_m41_4_dec_6.2.2.2.2.2.2.1, by decide⟩
theorem d_L_2655 : decode YL.2.1 2655 = .ok (.iload_n 3, 1) ∧ 2655 + 1 = 2656 := ⟨dB_old_26_m41_4_dec_6.2.2.2.2.2.2.2.1, by decide⟩
theorem d_L_2656 : decode YL.2.1 2656 = .ok (.iconst 1, 1) ∧ 2656 + 1 = 2657 := ⟨dB_old_26_m41_4_dec_6.2.2.2.2.2.2.2.2.1, by decide⟩
theorem d_L_2657 : decode YL.2.1 2657 = .ok (.iadd, 1) ∧ 2657 + 1 = 2658 := ⟨dB_old_26_m41_4_dec_6.2.2.2.2.2.2.2.2.2.1, by decide⟩
theorem d_L_2658 : decode YL.2.1 2658 = .ok (.iaload, 1) ∧ 2658 + 1 = 2659 := ⟨dB_old_26_m41_4_dec_6.2.2.2.2.2.2.2.2.2.2.1, by decide⟩
theorem d_L_2659 : decode YL.2.1 2659 = .ok (.aload_n 0, 1) ∧ 2659 + 1 = 2660 := ⟨dB_old_26_m41_4_dec_6.2.2.2.2.2.2.2.2.2.2.2.1, by decide⟩
theorem d_L_2660 : decode YL.2.1 2660 = .ok (.iload_n 3, 1) ∧ 2660 + 1 = 2661 := ⟨dB_old_26_m41_4_dec_6.2.2.2.2.2.2.2.2.2.2.2.2.1, by decide⟩
theorem d_L_2661 : decode YL.2.1 2661 = .ok (.iconst 2, 1) ∧ 2661 + 1 = 2662 := ⟨dB_old_26_m41_4_dec_6.2.2.2.2.2.2.2.2.2.2.2.2.2.1, by decide⟩
theorem d_L_2662 : decode YL.2.1 2662 = .ok (.iadd, 1) ∧ 2662 + 1 = 2663 := ⟨dB_old_26_m41_4_dec_6.2.2.2.2.2.2.2.2.2.2.2.2.2.2.1, by decide⟩
theorem d_L_2663 : decode YL.2.1 2663 = .ok (.iaload, 1) ∧ 2663 + 1 = 2664 := ⟨dB_old_26_m41_4_dec_6.2.2.2.2.2.2.2.2.2.2.2.2.2.2.2.1, by decide⟩
theorem d_L_2664 : decode YL.2.1 2664 = .ok (.invokevirtual 262, 3) ∧ 2664 + 3 = 2667 := ⟨dB_old_26_m41_4_dec_6.2.2.2.2.2.2.2.2.2.2.2.2.2.2.2.2.1, by decide⟩
theorem d_L_2667 : decode YL.2.1 2667 = .ok (.pop, 1) ∧ 2667 + 1 = 2668 := ⟨dB_old_26_m41_4_dec_6.2.2.2.2.2.2.2.2.2.2.2.2.2.2.2.2.2.1, by decide⟩
theorem d_L_2668 : decode YL.2.1 2668 = .ok (.goto 808, 3) ∧ ((2668 : Nat) : Int) + 808 = ((3476 : Nat) : Int) ∧ 2668 + 3 = 2671 := ⟨dB_old_26_m41_4_dec_6.2.2.2.2.2.2.2.2.2.2.2.2.2.2.2.2.2.2.1, by decide⟩
theorem d_L_2671 : decode YL.2.1 2671 = .ok (.aload_n 1, 1) ∧ 2671 + 1 = 2672 := ⟨dB_old_26_m41_4_dec_6.2.2.2.2.2.2.2.2.2.2.2.2.2.2.2.2.2.2.2.1, by decide⟩
theorem d_L_2672 : decode YL.2.1 2672 = .ok (.aload_n 0, 1) ∧ 2672 + 1 = 2673 := ⟨dB_old_26_m41_4_dec_6.2.2.2.2.2.2.2.2.2.2.2.2.2.2.2.2.2.2.2.2.1, by decide⟩
theorem d_L_2673 : decode YL.2.1 2673 = .ok (.iload_n 3, 1) ∧ 2673 + 1 = 2674 := ⟨dB_old_26_m41_4_dec_6.2.2.2.2.2.2.2.2.2.2.2.2.2.2.2.2.2.2.2.2.2.1, by decide⟩
theorem d_L_2674 : decode YL.2.1 2674 = .ok (.iconst 1, 1) ∧ 2674 + 1 = 2675 := ⟨dB_old_26_m41_4_dec_6.2.2.2.2.2.2.2.2.2.2.2.2.2.2.2.2.2.2.2.2.2.2.1, by decide⟩
theorem d_L_2675 : decode YL.2.1 2675 = .ok (.iadd, 1) ∧ 2675 + 1 = 2676 := ⟨dB_old_26_m41_4_dec_6.2.2.2.2.2.2.2.2.2.2.2.2.2.2.2.2.2.2.2.2.2.2.2.1, by decide⟩
theorem d_L_2676 : decode YL.2.1 2676 = .ok (.iaload, 1) ∧ 2676 + 1 = 2677 := ⟨dB_old_26_m41_4_dec_6.2.2.2.2.2.2.2.2.2.2.2.2.2.2.2.2.2.2.2.2.2.2.2.2.1, by decide⟩
theorem d_L_2677 : decode YL.2.1 2677 = .ok (.aload_n 0, 1) ∧ 2677 + 1 = 2678 := ⟨dB_old_26_m41_4_dec_6.2.2.2.2.2.2.2.2.2.2.2.2.2.2.2.2.2.2.2.2.2.2.2.2.2.1, by decide⟩
theorem d_L_2678 : decode YL.2.1 2678 = .ok (.iload_n 3, 1) ∧ 2678 + 1 = 2679 := ⟨dB_old_26_m41_4_dec_6.2.2.2.2.2.2.2.2.2.2.2.2.2.2.2.2.2.2.2.2.2.2.2.2.2.2.1, by decide⟩
theorem d_L_2679 : decode YL.2.1 2679 = .ok (.iconst 2, 1) ∧ 2679 + 1 = 2680 := ⟨dB_old_26_m41_4_dec_6.2.2.2.2.2.2.2.2.2.2.2.2.2.2.2.2.2.2.2.2.2.2.2.2.2.2.2.1, by decide⟩
theorem d_L_2680 : decode YL.2.1 2680 = .ok (.iadd, 1) ∧ 2680 + 1 = 2681 := ⟨dB_old_26_m41_4_dec_6.2.2.2.2.2.2.2.2.2.2.2.2.2.2.2.2.2.2.2.2.2.2.2.2.2.2.2.2.1, by decide⟩
theorem d_L_2681 : decode YL.2.1 2681 = .ok (.iaload, 1) ∧ 2681 + 1 = 2682 := ⟨dB_old_26_m41_4_dec_6.2.2.2.2.2.2.2.2.2.2.2.2.2.2.2.2.2.2.2.2.2.2.2.2.2.2.2.2.2.1, by decide⟩
theorem dB_old_26_m41_4_dec_7 : dAll YL.2.1 [(2682, (.invokevirtual 263, 3)), (2685, (.pop, 1)), (2686, (.aload_n 2, 1)), (2687, (.aload_n 0, 1)), (2688, (.iload_n 3, 1)), (2689, (.iconst 1, 1)), (2690, (.iadd, 1)), (2691, (.iaload, 1)), (2692, (.aload_n 0, 1)), (2693, (.iload_n 3, 1)), (2694, (.iconst 2, 1)), (2695, (.iadd, 1)), (2696, (.iaload, 1)), (2697, (.invokevirtual 266, 3)), (2700, (.pop, 1)), (2701, (.goto 775, 3)), (2704, (.aload_n 1, 1)), (2705, (.aload_n 0, 1)), (2706, (.iload_n 3, 1)), (2707, (.iconst 1, 1)), (2708, (.iadd, 1)), (2709, (.iaload, 1)), (2710, (.aload_n 0, 1)), (2711, (.iload_n 3, 1)), (2712, (.iconst 2, 1)), (2713, (.iadd, 1)), (2714, (.iaload, 1)), (2715, (.aload_n 0, 1)), (2716, (.iload_n 3, 1)), (2717, (.iconst 3, 1))] := dAll_of (by decide +kernel)
theorem d_L_2682 : decode YL.2.1 2682 = .ok (.invokevirtual 263, 3) ∧ 2682 + 3 = 2685 := ⟨dB_old_26_m41_4_dec_7.1, by decide⟩
theorem d_L_2685 : decode YL.2.1 2685 = .ok (.pop, 1) ∧ 2685 + 1 = 2686 := ⟨dB_old_26_m41_4_dec_7.2.1, by decide⟩
theorem d_L_2686 : decode YL.2.1 2686 = .ok (.aload_n 2, 1) ∧ 2686 + 1 = 2687 := ⟨dB_old_26_m41_4_dec_7.2.2.1, by decide⟩
theorem d_L_2687 : decode YL.2.1 2687 = .ok (.aload_n 0, 1) ∧ 2687 + 1 = 2688 := ⟨dB_old_26_m41_4_dec_7.2.2.2.1, by decide⟩
theorem d_L_2688 : decode YL.2.1 2688 = .ok (.iload_n 3, 1) ∧ 2688 + 1 = 2689 := ⟨dB_old_26_m41_4_dec_7.2.2.2.2.1, by decide⟩
theorem d_L_2689 : decode YL.2.1 2689 = .ok (.iconst 1, 1) ∧ 2689 + 1 = 2690 := ⟨dB_old_26_m41_4_dec_7.2.2.2.2.2.1, by decide⟩
theorem d_L_2690 : decode YL.2.1 2690 = .ok (.iadd, 1) ∧ 2690 + 1 = 2691 := ⟨dB_old_26_m41_4_dec_7.2.2.2.2.2.2.1, by decide⟩
theorem d_L_2691 : decode YL.2.1 2691 = .ok (.iaload, 1) ∧ 2691 + 1 = 2692 := ⟨dB_old_26_m41_4_dec_7.2.2.2.2.2.2.2.1, by decide⟩
theorem d_L_2692 : decode YL.2.1 2692 = .ok (.aload_n 0, 1) ∧ 2692 + 1 = 2693 := ⟨dB_old_26_m41_4_dec_7.2.2.2.2.2.2.2.2.1, by decide⟩
theorem d_L_2693 : decode YL.2.1 2693 = .ok (.iload_n 3, 1) ∧ 2693 + 1 = 2694 := ⟨dB_old_26_m41_4_dec_7.2.2.2.2.2.2.2.2.2.1, by decide⟩
theorem d_L_2694 : decode YL.2.1 2694 = .ok (.iconst 2, 1) ∧ 2694 + 1 = 2695 := ⟨dB_old_26_m41_4_dec_7.2.2.2.2.2.2.2.2.2.2.1, by decide⟩
theorem d_L_2695 : decode YL.2.1 2695 = .ok (.iadd, 1) ∧ 2695 + 1 = 2696 := ⟨dB_old_26_m41_4_dec_7.2.2.2.2.2.2.2.2.2.2.2.1, by decide⟩
theorem d_L_2696 : decode YL.2.1 2696 = .ok (.iaload, 1) ∧ 2696 + 1 = 2697 := ⟨dB_old_26_m41_4_dec_7.2.2.2.2.2.2.2.2.2.2.2.2.1, by decide⟩
theorem d_L_2697 : decode YL.2.1 2697 = .ok (.invokevirtual 266, 3) ∧ 2697 + 3 = 2700 := ⟨dB_old_26_m41_4_dec_7.2.2.2.2.2.2.2.2.2.2.2.2.2.1, by decide⟩
theorem d_L_2700 : decode YL.2.1 2700 = .ok (.pop, 1) ∧ 2700 + 1 = 2701 := ⟨dB_old_26_m41_4_dec_7.2.2.2.2.2.2.2.2.2.2.2.2.2.2.1, by decide⟩
theorem d_L_2701 : decode YL.2.1 2701 = .ok (.goto 775, 3) ∧ ((2701 : Nat) : Int) + 775 = ((3476 : Nat) : Int) ∧ 2701 + 3 = 2704 := ⟨dB_old_26_m41_4_dec_7.2.2.2.2.2.2.2.2.2.2.2.2.2.2.2.1, by decide⟩
theorem d_L_2704 : decode YL.2.1 2704 = .ok (.aload_n 1, 1) ∧ 2704 + 1 = 2705 := ⟨dB_old_26_m41_4_dec_7.2.2.2.2.2.2.2.2.2.2.2.2.2.2.2.2.1, by decide⟩
theorem d_L_2705 : decode YL.2.1 2705 = .ok (.aload_n 0, 1) ∧ 2705 + 1 = 2706 := ⟨dB_old_26_m41_4_dec_7.2.2.2.2.2.2.2.2.2.2.2.2.2.2.2.2.2.1, by decide⟩
theorem d_L_2706 : decode YL.2.1 2706 = .ok (.iload_n 3, 1) ∧ 2706 + 1 = 2707 := ⟨dB_old_26_m41_4_dec_7.2.2.2.2.2.2.2.2.2.2.2.2.2.2.2.2.2.2.1, by decide⟩
theorem d_L_2707 : decode YL.2.1 2707 = .ok (.iconst 1, 1) ∧ 2707 + 1 = 2708 := ⟨dB_old_26_m41_4_dec_7.2.2.2.2.2.2.2.2.2.2.2.2.2.2.2.2.2.2.2.1, by decide⟩
theorem d_L_2708 : decode YL.2.1 2708 = .ok (.iadd, 1) ∧ 2708 + 1 = 2709 := ⟨dB_old_26_m41_4_dec_7.2.2.2.2.2.2.2.2.2.2.2.2.2.2.2.2.2.2.2.2.1, by decide⟩
theorem d_L_2709 : decode YL.2.1 2709 = .ok (.iaload, 1) ∧ 2709 + 1 = 2710 := ⟨dB_old_26_m41_4_dec_7.2.2.2.2.2.2.2.2.2.2.2.2.2.2.2.2.2.2.2.2.2.1, by decide⟩
theorem d_L_2710 : decode YL.2.1 2710 = .ok (.aload_n 0, 1) ∧ 2710 + 1 = 2711 := ⟨dB_old_26_m41_4_dec_7.2.2.2.2.2.2.2.2.2.2.2.2.2.2.2.2.2.2.2.2.2.2.1, by decide⟩
theorem d_L_2711 : decode YL.2.1 2711 = .ok (.iload_n 3, 1) ∧ 2711 + 1 = 2712 := ⟨dB_old_26_m41_4_dec_7.2.2.2.2.2.2.2.2.2.2.2.2.2.2.2.2.2.2.2.2.2.2.2.1, by decide⟩
theorem d_L_2712 : decode YL.2.1 2712 = .ok (.iconst 2, 1) ∧ 2712 + 1 = 2713 := ⟨dB_old_26_m41_4_dec_7.2.2.2.2.2.2.2.2.2.2.2.2.2.2.2.2.2.2.2.2.2.2.2.2.1, by decide⟩
theorem d_L_2713 : decode YL.2.1 2713 = .ok (.iadd, 1) ∧ 2713 + 1 = 2714 := ⟨dB_old_26_m41_4_dec_7.2.2.2.2.2.2.2.2.2.2.2.2.2.2.2.2.2.2.2.2.2.2.2.2.2.1, by decide⟩
theorem d_L_2714 : decode YL.2.1 2714 = .ok (.iaload, 1) ∧ 2714 + 1 = 2715 := ⟨dB_old_26_m41_4_dec_7.2.2.2.2.2.2.2.2.2.2.2.2.2.2.2.2.2.2.2.2.2.2.2.2.2.2.1, by decide⟩
theorem d_L_2715 : decode YL.2.1 2715 = .ok (.aload_n 0, 1) ∧ 2715 + 1 = 2716 := ⟨dB_old_26_m41_4_dec_7.2.2.2.2.2.2.2.2.2.2.2.2.2.2.2.2.2.2.2.2.2.2.2.2.2.2.2.1, by decide⟩
theorem d_L_2716 : decode YL.2.1 2716 = .ok (.iload_n 3, 1) ∧ 2716 + 1 = 2717 := ⟨dB_old_26_m41_4_dec_7.2.2.2.2.2.2.2.2.2.2.2.2.2.2.2.2.2.2.2.2.2.2.2.2.2.2.2.2.1, by decide⟩
theorem d_L_2717 : decode YL.2.1 2717 = .ok (.iconst 3, 1) ∧ 2717 + 1 = 2718 := ⟨dB_old_26_m41_4_dec_7.2.2.2.2.2.2.2.2.2.2.2.2.2.2.2.2.2.2.2.2.2.2.2.2.2.2.2.2.2.1, by decide⟩
theorem dB_old_26_m41_4_dec_8 : dAll YL.2.1 [(2718, (.iadd, 1)), (2719, (.iaload, 1)), (2720, (.aload_n 0, 1)), (2721, (.iload_n 3, 1)), (2722, (.iconst 4, 1)), (2723, (.iadd, 1)), (2724, (.iaload, 1)), (2725, (.invokevirtual 267, 3)), (2728, (.pop, 1)), (2729, (.aload_n 2, 1)), (2730, (.aload_n 0, 1)), (2731, (.iload_n 3, 1)), (2732, (.iconst 1, 1)), (2733, (.iadd, 1)), (2734, (.iaload, 1)), (2735, (.aload_n 0, 1)), (2736, (.iload_n 3, 1)), (2737, (.iconst 2, 1)), (2738, (.iadd, 1)), (2739, (.iaload, 1)), (2740, (.aload_n 0, 1)), (2741, (.iload_n 3, 1)), (2742, (.iconst 3, 1)), (2743, (.iadd, 1)), (2744, (.iaload, 1)), (2745, (.aload_n 0, 1)), (2746, (.iload_n 3, 1)), (2747, (.iconst 4, 1)), (2748, (.iadd, 1)), (2749, (.iaload, 1))] := dAll_of (by decide +kernel)
theorem d_L_2718 : decode YL.2.1 2718 = .ok (.iadd, 1) ∧ 2718 + 1 = 2719 := ⟨dB_old_26_m41_4_dec_8.1, by decide⟩
theorem d_L_2719 : decode YL.2.1 2719 = .ok (.iaload, 1) ∧ 2719 + 1 = 2720 := ⟨dB_old_26_m41_4_dec_8.2.1, by decide⟩
theorem d_L_2720 : decode YL.2.1 2720 = .ok (.aload_n 0, 1) ∧ 2720 + 1 = 2721 := ⟨dB_old_26_m41_4_dec_8.2.2.1, by decide⟩
theorem d_L_2721 : decode YL.2.1 2721 = .ok (.iload_n 3, 1) ∧ 2721 + 1 = 2722 := ⟨dB_old_26_m41_4_dec_8.2.2.2.1, by decide⟩
theorem d_L_2722 : decode YL.2.1 2722 = .ok (.iconst 4, 1) ∧ 2722 + 1 = 2723 := ⟨dB_old_26_m41_4_dec_8.2.2.2.2.1, by decide⟩
theorem d_L_2723 : decode YL.2.1 2723 = .ok (.iadd, 1) ∧ 2723 + 1 = 2724 := ⟨dB_old_26_m41_4_dec_8.2.2.2.2.2.1, by decide⟩
theorem d_L_2724 : decode YL.2.1 2724 = .ok (.iaload, 1) ∧ 2724 + 1 = 2725 := ⟨dB_old_26_m41_4_dec_8.2.2.2.2.2.2.1, by decide⟩
theorem d_L_2725 : decode YL.2.1 2725 = .ok (.invokevirtual 267, 3) ∧ 2725 + 3 = 2728 := ⟨dB_old_26_m41_4_dec_8.2.2.2.2.2.2.2.1, by decide⟩
theorem d_L_2728 : decode YL.2.1 2728 = .ok (.pop, 1) ∧ 2728 + 1 = 2729 := ⟨dB_old_26_m41_4_dec_8.2.2.2.2.2.2.2.2.1, by decide⟩
theorem d_L_2729 : decode YL.2.1 2729 = .ok (.aload_n 2, 1) ∧ 2729 + 1 = 2730 := ⟨dB_old_26_m41_4_dec_8.2.2.2.2.2.2.2.2.2.1, by decide⟩
theorem d_L_2730 : decode YL.2.1 2730 = .ok (.aload_n 0, 1) ∧ 2730 + 1 = 2731 := ⟨dB_old_26_m41_4_dec_8.2.2.2.2.2.2.2.2.2.2.1, by decide⟩
theorem d_L_2731 : decode YL.2.1 2731 = .ok (.iload_n 3, 1) ∧ 2731 + 1 = 2732 := ⟨dB_old_26_m41_4_dec_8.2.2.2.2.2.2.2.2.2.2.2.1, by decide⟩
theorem d_L_2732 : decode YL.2.1 2732 = .ok (.iconst 1, 1) ∧ 2732 + 1 = 2733 := ⟨dB_old_26_m41_4_dec_8.2.2.2.2.2.2.2.2.2.2.2.2.1, by decide⟩
theorem d_L_2733 : decode YL.2.1 2733 = .ok (.iadd, 1) ∧ 2733 + 1 = 2734 := ⟨dB_old_26_m41_4_dec_8.2.2.2.2.2.2.2.2.2.2.2.2.2.1, by decide⟩
theorem d_L_2734 : decode YL.2.1 2734 = .ok (.iaload, 1) ∧ 2734 + 1 = 2735 := ⟨dB_old_26_m41_4_dec_8.2.2.2.2.2.2.2.2.2.2.2.2.2.2.1, by decide⟩
theorem d_L_2735 : decode YL.2.1 2735 = .ok (.aload_n 0, 1) ∧ 2735 + 1 = 2736 := ⟨dB_old_26_m41_4_dec_8.2.2.2.2.2.2.2.2.2.2.2.2.2.2.2.1, by decide⟩
theorem d_L_2736 : decode YL.2.1 2736 = .ok (.iload_n 3, 1) ∧ 2736 + 1 = 2737 := ⟨dB_old_26_m41_4_dec_8.2.2.2.2.2.2.2.2.2.2.2.2.2.2.2.2.1, by decide⟩
theorem d_L_2737 : decode YL.2.1 2737 = .ok (.iconst 2, 1) ∧ 2737 + 1 = 2738 := ⟨dB_old_26_m41_4_dec_8.2.2.2.2.2.2.2.2.2.2.2.2.2.2.2.2.2.1, by decide⟩
theorem d_L_2738 : decode YL.2.1 2738 = .ok (.iadd, 1) ∧ 2738 + 1 = 2739 := ⟨dB_old_26_m41_4_dec_8.2.2.2.2.2.2.2.2.2.2.2.2.2.2.2.2.2.2.1, by decide⟩
theorem d_L_2739 : decode YL.2.1 2739 = .ok (.iaload, 1) ∧ 2739 + 1 = 2740 := ⟨dB_old_26_m41_4_dec_8.2.2.2.2.2.2.2.2.2.2.2.2.2.2.2.2.2.2.2.1, by decide⟩
theorem d_L_2740 : decode YL.2.1 2740 = .ok (.aload_n 0, 1) ∧ 2740 + 1 = 2741 := ⟨dB_old_26_m41_4_dec_8.2.2.2.2.2.2.2.2.2.2.2.2.2.2.2.2.2.2.2.2.1, by decide⟩
theorem d_L_2741 : decode YL.2.1 2741 = .ok (.iload_n 3, 1) ∧ 2741 + 1 = 2742 := ⟨dB_old_26_m41_4_dec_8.2.2.2.2.2.2.2.2.2.2.2.2.2.2.2.2.2.2.2.2.2.1, by decide⟩
theorem d_L_2742 : decode YL.2.1 2742 = .ok (.iconst 3, 1) ∧ 2742 + 1 = 2743 := ⟨dB_old_26_m41_4_dec_8.2.2.2.2.2.2.2.2.2.2.2.2.2.2.2.2.2.2.2.2.2.2.1, by decide⟩
theorem d_L_2743 : decode YL.2.1 2743 = .ok (.iadd, 1) ∧ 2743 + 1 = 2744 := ⟨dB_old_26_m41_4_dec_8.2.2.2.2.2.2.2.2.2.2.2.2.2.2.2.2.2.2.2.2.2.2.2.1, by decide⟩
theorem d_L_2744 : decode YL.2.1 2744 = .ok (.iaload, 1) ∧ 2744 + 1 = 2745 := ⟨dB_old_26_m41_4_dec_8.2.2.2.2.2.2.2.2.2.2.2.2.2.2.2.2.2.2.2.2.2.2.2.2.1, by decide⟩
theorem d_L_2745 : decode YL.2.1 2745 = .ok (.aload_n 0, 1) ∧ 2745 + 1 = 2746 := ⟨dB_old_26_m41_4_dec_8.2.2.2.2.2.2.2.2.2.2.2.2.2.2.2.2.2.2.2.2.2.2.2.2.2.1, by decide⟩
theorem d_L_2746 : decode YL.2.1 2746 = .ok (.iload_n 3, 1) ∧ 2746 + 1 = 2747 := ⟨dB_old_26_m41_4_dec_8.2.2.2.2.2.2.2.2.2.2.2.2.2.2.2.2.2.2.2.2.2.2.2.2.2.2.1, by decide⟩
theorem d_L_2747 : decode YL.2.1 2747 = .ok (.iconst 4, 1) ∧ 2747 + 1 = 2748 := ⟨dB_old_26_m41_4_dec_8.2.2.2.2.2.2.2.2.2.2.2.2.2.2.2.2.2.2.2.2.2.2.2.2.2.2.2.1, by decide⟩
theorem d_L_2748 : decode YL.2.1 2748 = .ok (.iadd, 1) ∧ 2748 + 1 = 2749 := ⟨dB_old_26_m41_4_dec_8.2.2.2.2.2.2.2.2.2.2.2.2.2.2.2.2.2.2.2.2.2.2.2.2.2.2.2.2.1, by decide⟩
theorem d_L_2749 : decode YL.2.1 2749 = .ok (.iaload, 1) ∧ 2749 + 1 = 2750 := ⟨dB_old_26_m41_4_dec_8.2.2.2.2.2.2.2.2.2.2.2.2.2.2.2.2.2.2.2.2.2.2.2.2.2.2.2.2.2.1, by decide⟩
theorem dB_old_26_m41_4_dec_9 : dAll YL.2.1 [(2750, (.invokevirtual 270, 3)), (2753, (.pop, 1)), (2754, (.goto 722, 3)), (2757, (.aload_n 1, 1)), (2758, (.invokevirtual 271, 3)), (2761, (.pop, 1)), (2762, (.aload_n 2, 1)), (2763, (.invokevirtual 274, 3)), (2766, (.pop, 1)), (2767, (.goto 709, 3)), (2770, (.aload_n 1, 1)), (2771, (.invokevirtual 275, 3)), (2774, (.pop, 1)), (2775, (.aload_n 2, 1)), (2776, (.invokevirtual 278, 3)), (2779, (.pop, 1)), (2780, (.goto 696, 3)), (2783, (.aload_n 1, 1)), (2784, (.invokevirtual 279, 3)), (2787, (.pop, 1)), (2788, (.aload_n 2, 1)), (2789, (.invokevirtual 282, 3)), (2792, (.pop, 1)), (2793, (.goto 683, 3)), (2796, (.aload_n 1, 1)), (2797, (.aload_n 0, 1)), (2798, (.iload_n 3, 1)), (2799, (.iconst 1, 1)), (2800, (.iadd, 1)), (2801, (.iaload, 1))] := dAll_of (by decide +kernel)
theorem d_L_2750 : decode YL.2.1 2750 = .ok (.invokevirtual 270, 3) ∧ 2750 + 3 = 2753 := ⟨dB_old_26_m41_4_dec_9.1, by decide⟩
theorem d_L_2753 : decode YL.2.1 2753 = .ok (.pop, 1) ∧ 2753 + 1 = 2754 := ⟨dB_old_26_m41_4_dec_9.2.1, by decide⟩
theorem d_L_2754 : decode YL.2.1 2754 = .ok (.goto 722, 3) ∧ ((2754 : Nat) : Int) + 722 = ((3476 : Nat) : Int) ∧ 2754 + 3 = 2757 := ⟨dB_old_26_m41_4_dec_9.2.2.1, by decide⟩
theorem d_L_2757 : decode YL.2.1 2757 = .ok (.aload_n 1, 1) ∧ 2757 + 1 = 2758 := ⟨dB_old_26_m41_4_dec_9.2.2.2.1, by decide⟩
theorem d_L_2758 : decode YL.2.1 2758 = .ok (.invokevirtual 271, 3) ∧ 2758 + 3 = 2761 := ⟨dB_old_26_m41_4_dec_9.2.2.2.2.1, by decide⟩
theorem d_L_2761 : decode YL.2.1 2761 = .ok (.pop, 1) ∧ 2761 + 1 = 2762 := ⟨dB_old_26_m41_4_dec_9.2.2.2.2.2.1, by decide⟩
theorem d_L_2762 : decode YL.2.1 2762 = .ok (.aload_n 2, 1) ∧ 2762 + 1 = 2763 := ⟨dB_old_26_m41_4_dec_9.2.2.2.2.2.2.1, by decide⟩
theorem d_L_2763 : decode YL.2.1 2763 = .ok (.invokevirtual 274, 3) ∧ 2763 + 3 = 2766 := ⟨dB_old_26_m41_4_dec_9.2.2.2.2.2.2.2.1, by decide⟩
theorem d_L_2766 : decode YL.2.1 2766 = .ok (.pop, 1) ∧ 2766 + 1 = 2767 := ⟨dB_old_26_m41_4_dec_9.2.2.2.2.2.2.2.2.1, by decide⟩
theorem d_L_2767 : decode YL.2.1 2767 = .ok (.goto 709, 3) ∧ ((2767 : Nat) : Int) + 709 = ((3476 : Nat) : Int) ∧ 2767 + 3 = 2770 := ⟨dB_old_26_m41_4_dec_9.2.2.2.2.2.2.2.2.2.1, by decide⟩
theorem d_L_2770 : decode YL.2.1 2770 = .ok (.aload_n 1, 1) ∧ 2770 + 1 = 2771 := ⟨dB_old_26_m41_4_dec_9.2.2.2.2.2.2.2.2.2.2.1, by decide⟩
theorem d_L_2771 : decode YL.2.1 2771 = .ok (.invokevirtual 275, 3) ∧ 2771 + 3 = 2774 := ⟨dB_old_26_m41_4_dec_9.2.2.2.2.2.2.2.2.2.2.2.1, by decide⟩
theorem d_L_2774 : decode YL.2.1 2774 = .ok (.pop, 1) ∧ 2774 + 1 = 2775 := ⟨dB_old_26_m41_4_dec_9.2.2.2.2.2.2.2.2.2.2.2.2.1, by decide⟩
theorem d_L_2775 : decode YL.2.1 2775 = .ok (.aload_n 2, 1) ∧ 2775 + 1 = 2776 := ⟨dB_old_26_m41_4_dec_9.2.2.2.2.2.2.2.2.2.2.2.2.2.1, by decide⟩
theorem d_L_2776 : decode YL.2.1 2776 = .ok (.invokevirtual 278, 3) ∧ 2776 + 3 = 2779 := ⟨dB_old_26_m41_4_dec_9.2.2.2.2.2.2.2.2.2.2.2.2.2.2.1, by decide⟩
theorem d_L_2779 : decode YL.2.1 2779 = .ok (.pop, 1) ∧ 2779 + 1 = 2780 := ⟨dB_old_26_m41_4_dec_9.2.2.2.2.2.2.2.2.2.2.2.2.2.2.2.1, by decide⟩
theorem d_L_2780 : decode YL.2.1 2780 = .ok (.goto 696, 3) ∧ ((2780 : Nat) : Int) + 696 = ((3476 : Nat) : Int) ∧ 2780 + 3 = 2783 := ⟨dB_old_26_m41_4_dec_9.2.2.2.2.2.2.2.2.2.2.2.2.2.2.2.2.1, by decide⟩
theorem d_L_2783 : decode YL.2.1 2783 = .ok (.aload_n 1, 1) ∧ 2783 + 1 = 2784 := ⟨dB_old_26_m41_4_dec_9.2.2.2.2.2.2.2.2.2.2.2.2.2.2.2.2.2.1, by decide⟩
theorem d_L_2784 : decode YL.2.1 2784 = .ok (.invokevirtual 279, 3) ∧ 2784 + 3 = 2787 := ⟨dB_old_26_m41_4_dec_9.2.2.2.2.2.2.2.2.2.2.2.2.2.2.2.2.2.2.1, by decide⟩
theorem d_L_2787 : decode YL.2.1 2787 = .ok (.pop, 1) ∧ 2787 + 1 = 2788 := ⟨dB_old_26_m41_4_dec_9.2.2.2.2.2.2.2.2.2.2.2.2.2.2.2.2.2.2.2.1, by decide⟩
theorem d_L_2788 : decode YL.2.1 2788 = .ok (.aload_n 2, 1) ∧ 2788 + 1 = 2789 := ⟨dB_old_26_m41_4_dec_9.2.2.2.2.2.2.2.2.2.2.2.2.2.2.2.2.2.2.2.2.1, by decide⟩
theorem d_L_2789 : decode YL.2.1 2789 = .ok (.invokevirtual 282, 3) ∧ 2789 + 3 = 2792 := ⟨dB_old_26_m41_4_dec_9.2.2.2.2.2.2.2.2.2.2.2.2.2.2.2.2.2.2.2.2.2.1, by decide⟩
theorem d_L_2792 : decode YL.2.1 2792 = .ok (.pop, 1) ∧ 2792 + 1 = 2793 := ⟨dB_old_26_m41_4_dec_9.2.2.2.2.2.2.2.2.2.2.2.2.2.2.2.2.2.2.2.2.2.2.1, by decide⟩
theorem d_L_2793 : decode YL.2.1 2793 = .ok (.goto 683, 3) ∧ ((2793 : Nat) : Int) + 683 = ((3476 : Nat) : Int) ∧ 2793 + 3 = 2796 := ⟨dB_old_26_m41_4_dec_9.2.2.2.2.2.2.2.2.2.2.2.2.2.2.2.2.2.2.2.2.2.2.2.1, by decide⟩
theorem d_L_2796 : decode YL.2.1 2796 = .ok (.aload_n 1, 1) ∧ 2796 + 1 = 2797 := ⟨dB_old_26_m41_4_dec_9.2.2.2.2.2.2.2.2.2.2.2.2.2.2.2.2.2.2.2.2.2.2.2.2.1, by decide⟩
theorem d_L_2797 : decode YL.2.1 2797 = .ok (.aload_n 0, 1) ∧ 2797 + 1 = 2798 := ⟨dB_old_26_m41_4_dec_9.2.2.2.2.2.2.2.2.2.2.2.2.2.2.2.2.2.2.2.2.2.2.2.2.2.1, by decide⟩
theorem d_L_2798 : decode YL.2.1 2798 = .ok (.iload_n 3, 1) ∧ 2798 + 1 = 2799 := ⟨dB_old_26_m41_4_dec_9.2.2.2.2.2.2.2.2.2.2.2.2.2.2.2.2.2.2.2.2.2.2.2.2.2.2.1, by decide⟩
theorem d_L_2799 : decode YL.2.1 2799 = .ok (.iconst 1, 1) ∧ 2799 + 1 = 2800 := ⟨dB_old_26_m41_4_dec_9.2.2.2.2.2.2.2.2.2.2.2.2.2.2.2.2.2.2.2.2.2.2.2.2.2.2.2.1, by decide⟩
theorem d_L_2800 : decode YL.2.1 2800 = .ok (.iadd, 1) ∧ 2800 + 1 = 2801 := ⟨dB_old_26_m41_4_dec_9.2.2.2.2.2.2.2.2.2.2.2.2.2.2.2.2.2.2.2.2.2.2.2.2.2.2.2.2.1, by decide⟩
theorem d_L_2801 : decode YL.2.1 2801 = .ok (.iaload, 1) ∧ 2801 + 1 = 2802 := ⟨dB_old_26_m41_4_dec_9.2.2.2.2.2.2.2.2.2.2.2.2.2.2.2.2.2.2.2.2.2.2.2.2.2.2.2.2.2.1, by decide⟩
theorem dB_old_26_m41_4_dec_10 : dAll YL.2.1 [(2802, (.aload_n 0, 1)), (2803, (.iload_n 3, 1)), (2804, (.iconst 2, 1)), (2805, (.iadd, 1)), (2806, (.iaload, 1)), (2807, (.invokevirtual 283, 3)), (2810, (.pop, 1)), (2811, (.aload_n 2, 1)), (2812, (.aload_n 0, 1)), (2813, (.iload_n 3, 1)), (2814, (.iconst 1, 1)), (2815, (.iadd, 1)), (2816, (.iaload, 1)), (2817, (.aload_n 0, 1)), (2818, (.iload_n 3, 1)), (2819, (.iconst 2, 1)), (2820, (.iadd, 1)), (2821, (.iaload, 1)), (2822, (.invokevirtual 286, 3)), (2825, (.pop, 1)), (2826, (.goto 650, 3)), (2829, (.aload_n 1, 1)), (2830, (.aload_n 0, 1)), (2831, (.iload_n 3, 1)), (2832, (.iconst 1, 1)), (2833, (.iadd, 1)), (2834, (.iaload, 1)), (2835, (.invokevirtual 287, 3)), (2838, (.pop, 1)), (2839, (.aload_n 2, 1))] := dAll_of (by decide +kernel)
theorem d_L_2802 : decode YL.2.1 2802 = .ok (.aload_n 0, 1) ∧ 2802 + 1 = 2803 := ⟨dB_old_26_m41_4_dec_10.1, by decide⟩
theorem d_L_2803 : decode YL.2.1 2803 = .ok (.iload_n 3, 1) ∧ 2803 + 1 = 2804 := ⟨dB_old_26_m41_4_dec_10.2.1, by decide⟩
theorem d_L_2804 : decode YL.2.1 2804 = .ok (.iconst 2, 1) ∧ 2804 + 1 = 2805 := ⟨dB_old_26_m41_4_dec_10.2.2.1, by decide⟩
theorem d_L_2805 : decode YL.2.1 2805 = .ok (.iadd, 1) ∧ 2805 + 1 = 2806 := ⟨dB_old_26_m41_4_dec_10.2.2.2.1, by decide⟩
theorem d_L_2806 : decode YL.2.1 2806 = .ok (.iaload, 1) ∧ 2806 + 1 = 2807 := ⟨dB_old_26_m41_4_dec_10.2.2.2.2.1, by decide⟩
theorem d_L_2807 : decode YL.2.1 2807 = .ok (.invokevirtual 283, 3) ∧ 2807 + 3 = 2810 := ⟨dB_old_26_m41_4_dec_10.2.2.2.2.2.1, by decide⟩
theorem d_L_2810 : decode YL.2.1 2810 = .ok (.pop, 1) ∧ 2810 + 1 = 2811 := ⟨dB_old_26_m41_4_dec_10.2.2.2.2.2.2.1, by decide⟩
theorem d_L_2811 : decode YL.2.1 2811 = .ok (.aload_n 2, 1) ∧ 2811 + 1 = 2812 := ⟨dB_old_26_m41_4_dec_10.2.2.2.2.2.2.2.1, by decide⟩
theorem d_L_2812 : decode YL.2.1 2812 = .ok (.aload_n 0, 1) ∧ 2812 + 1 = 2813 := ⟨dB_old_26_m41_4_dec_10.2.2.2.2.2.2.2.2.1, by decide⟩
theorem d_L_2813 : decode YL.2.1 2813 = .ok (.iload_n 3, 1) ∧ 2813 + 1 = 2814 := ⟨dB_old_26_m41_4_dec_10.2.2.2.2.2.2.2.2.2.1, by decide⟩
theorem d_L_2814 : decode YL.2.1 2814 = .ok (.iconst 1, 1) ∧ 2814 + 1 = 2815 := ⟨dB_old_26_m41_4_dec_10.2.2.2.2.2.2.2.2.2.2.1, by decide⟩
theorem d_L_2815 : decode YL.2.1 2815 = .ok (.iadd, 1) ∧ 2815 + 1 = 2816 := ⟨dB_old_26_m41_4_dec_10.2.2.2.2.2.2.2.2.2.2.2.1, by decide⟩
theorem d_L_2816 : decode YL.2.1 2816 = .ok (.iaload, 1) ∧ 2816 + 1 = 2817 := ⟨dB_old_26_m41_4_dec_10.2.2.2.2.2.2.2.2.2.2.2.2.1, by decide⟩
theorem d_L_2817 : decode YL.2.1 2817 = .ok (.aload_n 0, 1) ∧ 2817 + 1 = 2818 := ⟨dB_old_26_m41_4_dec_10.2.2.2.2.2.2.2.2.2.2.2.2.2.1, by decide⟩
theorem d_L_2818 : decode YL.2.1 2818 = .ok (.iload_n 3, 1) ∧ 2818 + 1 = 2819 := ⟨dB_old_26_m41_4_dec_10.2.2.2.2.2.2.2.2.2.2.2.2.2.2.1, by decide⟩
theorem d_L_2819 : decode YL.2.1 2819 = .ok (.iconst 2, 1) ∧ 2819 + 1 = 2820 := ⟨dB_old_26_m41_4_dec_10.2.2.2.2.2.2.2.2.2.2.2.2.2.2.2.1, by decide⟩
theorem d_L_2820 : decode YL.2.1 2820 = .ok (.iadd, 1) ∧ 2820 + 1 = 2821 := ⟨dB_old_26_m41_4_dec_10.2.2.2.2.2.2.2.2.2.2.2.2.2.2.2.2.1, by decide⟩
theorem d_L_2821 : decode YL.2.1 2821 = .ok (.iaload, 1) ∧ 2821 + 1 = 2822 := ⟨dB_old_26_m41_4_dec_10.2.2.2.2.2.2.2.2.2.2.2.2.2.2.2.2.2.1, by decide⟩
theorem d_L_2822 : decode YL.2.1 2822 = .ok (.invokevirtual 286, 3) ∧ 2822 + 3 = 2825 := ⟨dB_old_26_m41_4_dec_10.2.2.2.2.2.2.2.2.2.2.2.2.2.2.2.2.2.2.1, by decide⟩
theorem d_L_2825 : decode YL.2.1 2825 = .ok (.pop, 1) ∧ 2825 + 1 = 2826 := ⟨dB_old_26_m41_4_dec_10.2.2.2.2.2.2.2.2.2.2.2.2.2.2.2.2.2.2.2.1, by decide⟩
theorem d_L_2826 : decode YL.2.1 2826 = .ok (.goto 650, 3) ∧ ((2826 : Nat) : Int) + 650 = ((3476 : Nat) : Int) ∧ 2826 + 3 = 2829 := ⟨dB_old_26_m41_4_dec_10.2.2.2.2.2.2.2.2.2.2.2.2.2.2.2.2.2.2.2.2.1, by decide⟩
theorem d_L_2829 : decode YL.2.1 2829 = .ok (.aload_n 1, 1) ∧ 2829 + 1 = 2830 := ⟨dB_old_26_m41_4_dec_10.2.2.2.2.2.2.2.2.2.2.2.2.2.2.2.2.2.2.2.2.2.1, by decide⟩
theorem d_L_2830 : decode YL.2.1 2830 = .ok (.aload_n 0, 1) ∧ 2830 + 1 = 2831 := ⟨dB_old_26_m41_4_dec_10.2.2.2.2.2.2.2.2.2.2.2.2.2.2.2.2.2.2.2.2.2.2.1, by decide⟩
theorem d_L_2831 : decode YL.2.1 2831 = .ok (.iload_n 3, 1) ∧ 2831 + 1 = 2832 := ⟨dB_old_26_m41_4_dec_10.2.2.2.2.2.2.2.2.2.2.2.2.2.2.2.2.2.2.2.2.2.2.2.1, by decide⟩
theorem d_L_2832 : decode YL.2.1 2832 = .ok (.iconst 1, 1) ∧ 2832 + 1 = 2833 := ⟨dB_old_26_m41_4_dec_10.2.2.2.2.2.2.2.2.2.2.2.2.2.2.2.2.2.2.2.2.2.2.2.2.1, by decide⟩
theorem d_L_2833 : decode YL.2.1 2833 = .ok (.iadd, 1) ∧ 2833 + 1 = 2834 := ⟨dB_old_26_m41_4_dec_10.2.2.2.2.2.2.2.2.2.2.2.2.2.2.2.2.2.2.2.2.2.2.2.2.2.1, by decide⟩
theorem d_L_2834 : decode YL.2.1 2834 = .ok (.iaload, 1) ∧ 2834 + 1 = 2835 := ⟨dB_old_26_m41_4_dec_10.2.2.2.2.2.2.2.2.2.2.2.2.2.2.2.2.2.2.2.2.2.2.2.2.2.2.1, by decide⟩
theorem d_L_2835 : decode YL.2.1 2835 = .ok (.invokevirtual 287, 3) ∧ 2835 + 3 = 2838 := ⟨dB_old_26_m41_4_dec_10.2.2.2.2.2.2.2.2.2.2.2.2.2.2.2.2.2.2.2.2.2.2.2.2.2.2.2.1, by decide⟩
theorem d_L_2838 : decode YL.2.1 2838 = .ok (.pop, 1) ∧ 2838 + 1 = 2839 := ⟨dB_old_26_m41_4_dec_10.2.2.2.2.2.2.2.2.2.2.2.2.2.2.2.2.2.2.2.2.2.2.2.2.2.2.2.2.1, by decide⟩
theorem d_L_2839 : decode YL.2.1 2839 = .ok (.aload_n 2, 1) ∧ 2839 + 1 = 2840 := ⟨dB_old_26_m41_4_dec_10.2.2.2.2.2.2.2.2.2.2.2.2.2.2.2.2.2.2.2.2.2.2.2.2.2.2.2.2.2.1, by decide⟩
theorem dB_old_26_m41_4_dec_11 : dAll YL.2.1 [(2840, (.aload_n 0, 1)), (2841, (.iload_n 3, 1)), (2842, (.iconst 1, 1)), (2843, (.iadd, 1)), (2844, (.iaload, 1)), (2845, (.invokevirtual 290, 3)), (2848, (.pop, 1)), (2849, (.goto 627, 3)), (2852, (.aload_n 1, 1)), (2853, (.aload_n 0, 1)), (2854, (.iload_n 3, 1)), (2855, (.iconst 1, 1)), (2856, (.iadd, 1)), (2857, (.iaload, 1)), (2858, (.aload_n 0, 1)), (2859, (.iload_n 3, 1)), (2860, (.iconst 2, 1)), (2861, (.iadd, 1)), (2862, (.iaload, 1)), (2863, (.invokevirtual 291, 3)), (2866, (.pop, 1)), (2867, (.aload_n 2, 1)), (2868, (.aload_n 0, 1)), (2869, (.iload_n 3, 1)), (2870, (.iconst 1, 1)), (2871, (.iadd, 1)), (2872, (.iaload, 1)), (2873, (.aload_n 0, 1)), (2874, (.iload_n 3, 1)), (2875, (.iconst 2, 1))] := dAll_of (by decide +kernel)
theorem d_L_2840 : decode YL.2.1 2840 = .ok (.aload_n 0, 1) ∧ 2840 + 1 = 2841 := ⟨dB_old_26_m41_4_dec_11.1, by decide⟩
theorem d_L_2841 : decode YL.2.1 2841 = .ok (.iload_n 3, 1) ∧ 2841 + 1 = 2842 := ⟨dB_old_26_m41_4_dec_11.2.1, by decide⟩
theorem d_L_2842 : decode YL.2.1 2842 = .ok (.iconst 1, 1) ∧ 2842 + 1 = 2843 := ⟨dB_old_26_m41_4_dec_11.2.2.1, by decide⟩
theorem d_L_2843 : decode YL.2.1 2843 = .ok (.iadd, 1) ∧ 2843 + 1 = 2844 := ⟨dB_old_26_m41_4_dec_11.2.2.2.1, by decide⟩
theorem d_L_2844 : decode YL.2.1 2844 = .ok (.iaload, 1) ∧ 2844 + 1 = 2845 := ⟨dB_old_26_m41_4_dec_11.2.2.2.2.1, by decide⟩
theorem d_L_2845 : decode YL.2.1 2845 = .ok (.invokevirtual 290, 3) ∧ 2845 + 3 = 2848 := ⟨dB_old_26_m41_4_dec_11.2.2.2.2.2.1, by decide⟩
theorem d_L_2848 : decode YL.2.1 2848 = .ok (.pop, 1) ∧ 2848 + 1 = 2849 := ⟨dB_old_26_m41_4_dec_11.2.2.2.2.2.2.1, by decide⟩
theorem d_L_2849 : decode YL.2.1 2849 = .ok (.goto 627, 3) ∧ ((2849 : Nat) : Int) + 627 = ((3476 : Nat) : Int) ∧ 2849 + 3 = 2852 := ⟨dB_old_26_m41_4_dec_11.2.2.2.2.2.2.2.1, by decide⟩
theorem d_L_2852 : decode YL.2.1 2852 = .ok (.aload_n 1, 1) ∧ 2852 + 1 = 2853 := ⟨dB_old_26_m41_4_dec_11.2.2.2.2.2.2.2.2.1, by decide⟩
theorem d_L_2853 : decode YL.2.1 2853 = .ok (.aload_n 0, 1) ∧ 2853 + 1 = 2854 := ⟨dB_old_26_m41_4_dec_11.2.2.2.2.2.2.2.2.2.1, by decide⟩
theorem d_L_2854 : decode YL.2.1 2854 = .ok (.iload_n 3, 1) ∧ 2854 + 1 = 2855 := ⟨dB_old_26_m41_4_dec_11.2.2.2.2.2.2.2.2.2.2.1, by decide⟩
theorem d_L_2855 : decode YL.2.1 2855 = .ok (.iconst 1, 1) ∧ 2855 + 1 = 2856 := ⟨dB_old_26_m41_4_dec_11.2.2.2.2.2.2.2.2.2.2.2.1, by decide⟩
theorem d_L_2856 : decode YL.2.1 2856 = .ok (.iadd, 1) ∧ 2856 + 1 = 2857 := ⟨dB_old_26_m41_4_dec_11.2.2.2.2.2.2.2.2.2.2.2.2.1, by decide⟩
theorem d_L_2857 : decode YL.2.1 2857 = .ok (.iaload, 1) ∧ 2857 + 1 = 2858 := ⟨dB_old_26_m41_4_dec_11.2.2.2.2.2.2.2.2.2.2.2.2.2.1, by decide⟩
theorem d_L_2858 : decode YL.2.1 2858 = .ok (.aload_n 0, 1) ∧ 2858 + 1 = 2859 := ⟨dB_old_26_m41_4_dec_11.2.2.2.2.2.2.2.2.2.2.2.2.2.2.1, by decide⟩
theorem d_L_2859 : decode YL.2.1 2859 = .ok (.iload_n 3, 1) ∧ 2859 + 1 = 2860 := ⟨dB_old_26_m41_4_dec_11.2.2.2.2.2.2.2.2.2.2.2.2.2.2.2.1, by decide⟩
theorem d_L_2860 : decode YL.2.1 2860 = .ok (.iconst 2, 1) ∧ 2860 + 1 = 2861 := ⟨dB_old_26_m41_4_dec_11.2.2.2.2.2.2.2.2.2.2.2.2.2.2.2.2.1, by decide⟩
theorem d_L_2861 : decode YL.2.1 2861 = .ok (.iadd, 1) ∧ 2861 + 1 = 2862 := ⟨dB_old_26_m41_4_dec_11.2.2.2.2.2.2.2.2.2.2.2.2.2.2.2.2.2.1, by decide⟩
theorem d_L_2862 : decode YL.2.1 2862 = .ok (.iaload, 1) ∧ 2862 + 1 = 2863 := ⟨dB_old_26_m41_4_dec_11.2.2.2.2.2.2.2.2.2.2.2.2.2.2.2.2.2.2.1, by decide⟩
theorem d_L_2863 : decode YL.2.1 2863 = .ok (.invokevirtual 291, 3) ∧ 2863 + 3 = 2866 := ⟨dB_old_26_m41_4_dec_11.2.2.2.2.2.2.2.2.2.2.2.2.2.2.2.2.2.2.2.1, by decide⟩
theorem d_L_2866 : decode YL.2.1 2866 = .ok (.pop, 1) ∧ 2866 + 1 = 2867 := ⟨dB_old_26_m41_4_dec_11.2.2.2.2.2.2.2.2.2.2.2.2.2.2.2.2.2.2.2.2.1, by decide⟩
theorem d_L_2867 : decode YL.2.1 2867 = .ok (.aload_n 2, 1) ∧ 2867 + 1 = 2868 := ⟨dB_old_26_m41_4_dec_11.2.2.2.2.2.2.2.2.2.2.2.2.2.2.2.2.2.2.2.2.2.1, by decide⟩
theorem d_L_2868 : decode YL.2.1 2868 = .ok (.aload_n 0, 1) ∧ 2868 + 1 = 2869 := ⟨dB_old_26_m41_4_dec_11.2.2.2.2.2.2.2.2.2.2.2.2.2.2.2.2.2.2.2.2.2.2.1, by decide⟩
theorem d_L_2869 : decode YL.2.1 2869 = .ok (.iload_n 3, 1) ∧ 2869 + 1 = 2870 := ⟨dB_old_26_m41_4_dec_11.2.2.2.2.2.2.2.2.2.2.2.2.2.2.2.2.2.2.2.2.2.2.2.1, by decide⟩
theorem d_L_2870 : decode YL.2.1 2870 = .ok (.iconst 1, 1) ∧ 2870 + 1 = 2871 := ⟨dB_old_26_m41_4_dec_11.2.2.2.2.2.2.2.2.2.2.2.2.2.2.2.2.2.2.2.2.2.2.2.2.1, by decide⟩
theorem d_L_2871 : decode YL.2.1 2871 = .ok (.iadd, 1) ∧ 2871 + 1 = 2872 := ⟨dB_old_26_m41_4_dec_11.2.2.2.2.2.2.2.2.2.2.2.2.2.2.2.2.2.2.2.2.2.2.2.2.2.1, by decide⟩
theorem d_L_2872 : decode YL.2.1 2872 = .ok (.iaload, 1) ∧ 2872 + 1 = 2873 := ⟨dB_old_26_m41_4_dec_11.2.2.2.2.2.2.2.2.2.2.2.2.2.2.2.2.2.2.2.2.2.2.2.2.2.2.1, by decide⟩
theorem d_L_2873 : decode YL.2.1 2873 = .ok (.aload_n 0, 1) ∧ 2873 + 1 = 2874 := ⟨dB_old_26_m41_4_dec_11.2.2.2.2.2.2.2.2.2.2.2.2.2.2.2.2.2.2.2.2.2.2.2.2.2.2.2.1, by decide⟩
theorem d_L_2874 : decode YL.2.1 2874 = .ok (.iload_n 3, 1) ∧ 2874 + 1 = 2875 := ⟨dB_old_26_m41_4_dec_11.2.2.2.2.2.2.2.2.2.2.2.2.2.2.2.2.2.2.2.2.2.2.2.2.2.2.2.2.1, by decide⟩
theorem d_L_2875 : decode YL.2.1 2875 = .ok (.iconst 2, 1) ∧ 2875 + 1 = 2876 := ⟨dB_old_26_m41_4_dec_11.2.2.2.2.2.2.2.2.2.2.2.2.2.2.2.2.2.2.2.2.2.2.2.2.2.2.2.2.2.1, by decide⟩
theorem dB_old_26_m41_4_dec_12 : dAll YL.2.1 [(2876, (.iadd, 1)), (2877, (.iaload, 1)), (2878, (.invokevirtual 294, 3)), (2881, (.pop, 1)), (2882, (.goto 594, 3)), (2885, (.aload_n 1, 1)), (2886, (.aload_n 0, 1)), (2887, (.iload_n 3, 1)), (2888, (.iconst 1, 1)), (2889, (.iadd, 1)), (2890, (.iaload, 1)), (2891, (.invokevirtual 295, 3)), (2894, (.pop, 1)), (2895, (.aload_n 2, 1)), (2896, (.aload_n 0, 1)), (2897, (.iload_n 3, 1)), (2898, (.iconst 1, 1)), (2899, (.iadd, 1)), (2900, (.iaload, 1)), (2901, (.invokevirtual 298, 3)), (2904, (.pop, 1)), (2905, (.goto 571, 3)), (2908, (.aload_n 1, 1)), (2909, (.aload_n 0, 1)), (2910, (.iload_n 3, 1)), (2911, (.iconst 1, 1)), (2912, (.iadd, 1)), (2913, (.iaload, 1)), (2914, (.aload_n 0, 1)), (2915, (.iload_n 3, 1))] := dAll_of (by decide +kernel)
theorem d_L_2876 : decode YL.2.1 2876 = .ok (.iadd, 1) ∧ 2876 + 1 = 2877 := ⟨dB_old_26_m41_4_dec_12.1, by decide⟩
theorem d_L_2877 : decode YL.2.1 2877 = .ok (.iaload, 1) ∧ 2877 + 1 = 2878 := ⟨dB_old_26_m41_4_dec_12.2.1, by decide⟩
theorem d_L_2878 : decode YL.2.1 2878 = .ok (.invokevirtual 294, 3) ∧ 2878 + 3 = 2881 := ⟨dB_old_26_m41_4_dec_12.2.2.1, by decide⟩
theorem d_L_2881 : decode YL.2.1 2881 = .ok (.pop, 1) ∧ 2881 + 1 = 2882 := ⟨dB_old_26_m41_4_dec_12.2.2.2.1, by decide⟩
theorem d_L_2882 : decode YL.2.1 2882 = .ok (.goto 594, 3) ∧ ((2882 : Nat) : Int) + 594 = ((3476 : Nat) : Int) ∧ 2882 + 3 = 2885 := ⟨dB_old_26_m41_4_dec_12.2.2.2.2.1, by decide⟩
theorem d_L_2885 : decode YL.2.1 2885 = .ok (.aload_n 1, 1) ∧ 2885 + 1 = 2886 := ⟨dB_old_26_m41_4_dec_12.2.2.2.2.2.1, by decide⟩
theorem d_L_2886 : decode YL.2.1 2886 = .ok (.aload_n 0, 1) ∧ 2886 + 1 = 2887 := ⟨dB_old_26_m41_4_dec_12.2.2.2.2.2.2.1, by decide⟩
theorem d_L_2887 : decode YL.2.1 2887 = .ok (.iload_n 3, 1) ∧ 2887 + 1 = 2888 := ⟨dB_old_26_m41_4_dec_12.2.2.2.2.2.2.2.1, by decide⟩
theorem d_L_2888 : decode YL.2.1 2888 = .ok (.iconst 1, 1) ∧ 2888 + 1 = 2889 := ⟨dB_old_26_m41_4_dec_12.2.2.2.2.2.2.2.2.1, by decide⟩
theorem d_L_2889 : decode YL.2.1 2889 = .ok (.iadd, 1) ∧ 2889 + 1 = 2890 := ⟨dB_old_26_m41_4_dec_12.2.2.2.2.2.2.2.2.2.1, by decide⟩
theorem d_L_2890 : decode YL.2.1 2890 = .ok (.iaload, 1) ∧ 2890 + 1 = 2891 := ⟨dB_old_26_m41_4_dec_12.2.2.2.2.2.2.2.2.2.2.1, by decide⟩
theorem d_L_2891 : decode YL.2.1 2891 = .ok (.invokevirtual 295, 3) ∧ 2891 + 3 = 2894 := ⟨dB_old_26_m41_4_dec_12.2.2.2.2.2.2.2.2.2.2.2.1, by decide⟩
theorem d_L_2894 : decode YL.2.1 2894 = .ok (.pop, 1) ∧ 2894 + 1 = 2895 := ⟨dB_old_26_m41_4_dec_12.2.2.2.2.2.2.2.2.2.2.2.2.1, by decide⟩
theorem d_L_2895 : decode YL.2.1 2895 = .ok (.aload_n 2, 1) ∧ 2895 + 1 = 2896 := ⟨dB_old_26_m41_4_dec_12.2.2.2.2.2.2.2.2.2.2.2.2.2.1, by decide⟩
theorem d_L_2896 : decode YL.2.1 2896 = .ok (.aload_n 0, 1) ∧ 2896 + 1 = 2897 := ⟨dB_old_26_m41_4_dec_12.2.2.2.2.2.2.2.2.2.2.2.2.2.2.1, by decide⟩
theorem d_L_2897 : decode YL.2.1 2897 = .ok (.iload_n 3, 1) ∧ 2897 + 1 = 2898 := ⟨dB_old_26_m41_4_dec_12.2.2.2.2.2.2.2.2.2.2.2.2.2.2.2.1, by decide⟩
theorem d_L_2898 : decode YL.2.1 2898 = .ok (.iconst 1, 1) ∧ 2898 + 1 = 2899 := ⟨dB_old_26_m41_4_dec_12.2.2.2.2.2.2.2.2.2.2.2.2.2.2.2.2.1, by decide⟩
theorem d_L_2899 : decode YL.2.1 2899 = .ok (.iadd, 1) ∧ 2899 + 1 = 2900 := ⟨dB_old_26_m41_4_dec_12.2.2.2.2.2.2.2.2.2.2.2.2.2.2.2.2.2.1, by decide⟩
theorem d_L_2900 : decode YL.2.1 2900 = .ok (.iaload, 1) ∧ 2900 + 1 = 2901 := ⟨dB_old_26_m41_4_dec_12.2.2.2.2.2.2.2.2.2.2.2.2.2.2.2.2.2.2.1, by decide⟩
theorem d_L_2901 : decode YL.2.1 2901 = .ok (.invokevirtual 298, 3) ∧ 2901 + 3 = 2904 := ⟨dB_old_26_m41_4_dec_12.2.2.2.2.2.2.2.2.2.2.2.2.2.2.2.2.2.2.2.1, by decide⟩
theorem d_L_2904 : decode YL.2.1 2904 = .ok (.pop, 1) ∧ 2904 + 1 = 2905 := ⟨dB_old_26_m41_4_dec_12.2.2.2.2.2.2.2.2.2.2.2.2.2.2.2.2.2.2.2.2.1, by decide⟩
theorem d_L_2905 : decode YL.2.1 2905 = .ok (.goto 571, 3) ∧ ((2905 : Nat) : Int) + 571 = ((3476 : Nat) : Int) ∧ 2905 + 3 = 2908 := ⟨dB_old_26_m41_4_dec_12.2.2.2.2.2.2.2.2.2.2.2.2.2.2.2.2.2.2.2.2.2.1, by decide⟩
theorem d_L_2908 : decode YL.2.1 2908 = .ok (.aload_n 1, 1) ∧ 2908 + 1 = 2909 := ⟨dB_old_26_m41_4_dec_12.2.2.2.2.2.2.2.2.2.2.2.2.2.2.2.2.2.2.2.2.2.2.1, by decide⟩
theorem d_L_2909 : decode YL.2.1 2909 = .ok (.aload_n 0, 1) ∧ 2909 + 1 = 2910 := ⟨dB_old_26_m41_4_dec_12.2.2.2.2.2.2.2.2.2.2.2.2.2.2.2.2.2.2.2.2.2.2.2.1, by decide⟩
theorem d_L_2910 : decode YL.2.1 2910 = .ok (.iload_n 3, 1) ∧ 2910 + 1 = 2911 := ⟨dB_old_26_m41_4_dec_12.2.2.2.2.2.2.2.2.2.2.2.2.2.2.2.2.2.2.2.2.2.2.2.2.1, by decide⟩
theorem d_L_2911 : decode YL.2.1 2911 = .ok (.iconst 1, 1) ∧ 2911 + 1 = 2912 := ⟨dB_old_26_m41_4_dec_12.2.2.2.2.2.2.2.2.2.2.2.2.2.2.2.2.2.2.2.2.2.2.2.2.2.1, by decide⟩
theorem d_L_2912 : decode YL.2.1 2912 = .ok (.iadd, 1) ∧ 2912 + 1 = 2913 := ⟨dB_old_26_m41_4_dec_12.2.2.2.2.2.2.2.2.2.2.2.2.2.2.2.2.2.2.2.2.2.2.2.2.2.2.1, by decide⟩
theorem d_L_2913 : decode YL.2.1 2913 = .ok (.iaload, 1) ∧ 2913 + 1 = 2914 := ⟨dB_old_26_m41_4_dec_12.2.2.2.2.2.2.2.2.2.2.2.2.2.2.2.2.2.2.2.2.2.2.2.2.2.2.2.1, by decide⟩
theorem d_L_2914 : decode YL.2.1 2914 = .ok (.aload_n 0, 1) ∧ 2914 + 1 = 2915 := ⟨dB_old_26_m41_4_dec_12.2.2.2.2.2.2.2.2.2.2.2.2.2.2.2.2.2.2.2.2.2.2.2.2.2.2.2.2.1, by decide⟩
theorem d_L_2915 : decode YL.2.1 2915 = .ok (.iload_n 3, 1) ∧ 2915 + 1 = 2916 := ⟨dB_old_26_m41_4_dec_12.2.2.2.2.2.2.2.2.2.2.2.2.2.2.2.2.2.2.2.2.2.2.2.2.2.2.2.2.2.1, by decide⟩
theorem dB_old_26_m41_4_dec_13 : dAll YL.2.1 [(2916, (.iconst 2, 1)), (2917, (.iadd, 1)), (2918, (.iaload, 1)), (2919, (.i2l, 1)), (2920, (.bipush 32, 2)), (2922, (.lshl, 1)), (2923, (.aload_n 0, 1)), (2924, (.iload_n 3, 1)), (2925, (.iconst 3, 1)), (2926, (.iadd, 1)), (2927, (.iaload, 1)), (2928, (.i2l, 1)), (2929, (.ldc2_w 13, 3)), (2932, (.land, 1)), (2933, (.lor, 1)), (2934, (.invokevirtual 299, 3)), (2937, (.pop2, 1)), (2938, (.aload_n 2, 1)), (2939, (.aload_n 0, 1)), (2940, (.iload_n 3, 1)), (2941, (.iconst 1, 1)), (2942, (.iadd, 1)), (2943, (.iaload, 1)), (2944, (.aload_n 0, 1)), (2945, (.iload_n 3, 1)), (2946, (.iconst 2, 1)), (2947, (.iadd, 1)), (2948, (.iaload, 1)), (2949, (.i2l, 1)), (2950, (.bipush 32, 2))] := dAll_of (by decide +kernel)
theorem d_L_2916 : decode YL.2.1 2916 = .ok (.iconst 2, 1) ∧ 2916 + 1 = 2917 := ⟨dB_old_26_m41_4_dec_13.1, by decide⟩
theorem d_L_2917 : decode YL.2.1 2917 = .ok (.iadd, 1) ∧ 2917 + 1 = 2918 := ⟨dB_old_26_m41_4_dec_13.2.1, by decide⟩
theorem d_L_2918 : decode YL.2.1 2918 = .ok (.iaload, 1) ∧ 2918 + 1 = 2919 := ⟨dB_old_26_m41_4_dec_13.2.2.1, by decide⟩
theorem d_L_2919 : decode YL.2.1 2919 = .ok (.i2l, 1) ∧ 2919 + 1 = 2920 := ⟨dB_old_26_m41_4_dec_13.2.2.2.1, by decide⟩
theorem d_L_2920 : decode YL.2.1 2920 = .ok (.bipush 32, 2) ∧ 2920 + 2 = 2922 := ⟨dB_old_26_m41_4_dec_13.2.2.2.2.1, by decide⟩
theorem d_L_2922 : decode YL.2.1 2922 = .ok (.lshl, 1) ∧ 2922 + 1 = 2923 := ⟨dB_old_26_m41_4_dec_13.2.2.2.2.2.1, by decide⟩
theorem d_L_2923 : decode YL.2.1 2923 = .ok (.aload_n 0, 1) ∧ 2923 + 1 = 2924 := ⟨dB_old_26_m41_4_dec_13.2.2.2.2.2.2.1, by decide⟩
theorem d_L_2924 : decode YL.2.1 2924 = .ok (.iload_n 3, 1) ∧ 2924 + 1 = 2925 := ⟨dB_old_26_m41_4_dec_13.2.2.2.2.2.2.2.1, by decide⟩
theorem d_L_2925 : decode YL.2.1 2925 = .ok (.iconst 3, 1) ∧ 2925 + 1 = 2926 := ⟨dB_old_26_m41_4_dec_13.2.2.2.2.2.2.2.2.1, by decide⟩
theorem d_L_2926 : decode YL.2.1 2926 = .ok (.iadd, 1) ∧ 2926 + 1 = 2927 := ⟨dB_old_26_m41_4_dec_13.2.2.2.2.2.2.2.2.2.1, by decide⟩
theorem d_L_2927 : decode YL.2.1 2927 = .ok (.iaload, 1) ∧ 2927 + 1 = 2928 := ⟨dB_old_26_m41_4_dec_13.2.2.2.2.2.2.2.2.2.2.1, by decide⟩
theorem d_L_2928 : decode YL.2.1 2928 = .ok (.i2l, 1) ∧ 2928 + 1 = 2929 := ⟨dB_old_26_m41_4_dec_13.2.2.2.2.2.2.2.2.2.2.2.1, by decide⟩
theorem d_L_2929 : decode YL.2.1 2929 = .ok (.ldc2_w 13, 3) ∧ 2929 + 3 = 2932 := ⟨dB_old_26_m41_4_dec_13.2.2.2.2.2.2.2.2.2.2.2.2.1, by decide⟩
theorem d_L_2932 : decode YL.2.1 2932 = .ok (.land, 1) ∧ 2932 + 1 = 2933 := ⟨dB_old_26_m41_4_dec_13.2.2.2.2.2.2.2.2.2.2.2.2.2.1, by decide⟩
theorem d_L_2933 : decode YL.2.1 2933 = .ok (.lor, 1) ∧ 2933 + 1 = 2934 := ⟨dB_old_26_m41_4_dec_13.2.2.2.2.2.2.2.2.2.2.2.2.2.2.1, by decide⟩
theorem d_L_2934 : decode YL.2.1 2934 = .ok (.invokevirtual 299, 3) ∧ 2934 + 3 = 2937 := ⟨dB_old_26_m41_4_dec_13.2.2.2.2.2.2.2.2.2.2.2.2.2.2.2.1, by decide⟩
theorem d_L_2937 : decode YL.2.1 2937 = .ok (.pop2, 1) ∧ 2937 + 1 = 2938 := ⟨dB_old_26_m41_4_dec_13.2.2.2.2.2.2.2.2.2.2.2.2.2.2.2.2.1, by decide⟩
theorem d_L_2938 : decode YL.2.1 2938 = .ok (.aload_n 2, 1) ∧ 2938 + 1 = 2939 := ⟨dB_old_26_m41_4_dec_13.2.2.2.2.2.2.2.2.2.2.2.2.2.2.2.2.2.1, by decide⟩
theorem d_L_2939 : decode YL.2.1 2939 = .ok (.aload_n 0, 1) ∧ 2939 + 1 = 2940 := ⟨dB_old_26_m41_4_dec_13.2.2.2.2.2.2.2.2.2.2.2.2.2.2.2.2.2.2.1, by decide⟩
theorem d_L_2940 : decode YL.2.1 2940 = .ok (.iload_n 3, 1) ∧ 2940 + 1 = 2941 := ⟨dB_old_26_m41_4_dec_13.2.2.2.2.2.2.2.2.2.2.2.2.2.2.2.2.2.2.2.1, by decide⟩
theorem d_L_2941 : decode YL.2.1 2941 = .ok (.iconst 1, 1) ∧ 2941 + 1 = 2942 := ⟨dB_old_26_m41_4_dec_13.2.2.2.2.2.2.2.2.2.2.2.2.2.2.2.2.2.2.2.2.1, by decide⟩
theorem d_L_2942 : decode YL.2.1 2942 = .ok (.iadd, 1) ∧ 2942 + 1 = 2943 := ⟨dB_old_26_m41_4_dec_13.2.2.2.2.2.2.2.2.2.2.2.2.2.2.2.2.2.2.2.2.2.1, by decide⟩
theorem d_L_2943 : decode YL.2.1 2943 = .ok (.iaload, 1) ∧ 2943 + 1 = 2944 := ⟨dB_old_26_m41_4_dec_13.2.2.2.2.2.2.2.2.2.2.2.2.2.2.2.2.2.2.2.2.2.2.1, by decide⟩
theorem d_L_2944 : decode YL.2.1 2944 = .ok (.aload_n 0, 1) ∧ 2944 + 1 = 2945 := ⟨dB_old_26_m41_4_dec_13.2.2.2.2.2.2.2.2.2.2.2.2.2.2.2.2.2.2.2.2.2.2.2.1, by decide⟩
theorem d_L_2945 : decode YL.2.1 2945 = .ok (.iload_n 3, 1) ∧ 2945 + 1 = 2946 := ⟨dB_old_26_m41_4_dec_13.2.2.2.2.2.2.2.2.2.2.2.2.2.2.2.2.2.2.2.2.2.2.2.2.1, by decide⟩
theorem d_L_2946 : decode YL.2.1 2946 = .ok (.iconst 2, 1) ∧ 2946 + 1 = 2947 := ⟨dB_old_26_m41_4_dec_13.2.2.2.2.2.2.2.2.2.2.2.2.2.2.2.2.2.2.2.2.2.2.2.2.2.1, by decide⟩
theorem d_L_2947 : decode YL.2.1 2947 = .ok (.iadd, 1) ∧ 2947 + 1 = 2948 := ⟨dB_old_26_m41_4_dec_13.2.2.2.2.2.2.2.2.2.2.2.2.2.2.2.2.2.2.2.2.2.2.2.2.2.2.1, by decide⟩
theorem d_L_2948 : decode YL.2.1 2948 = .ok (.iaload, 1) ∧ 2948 + 1 = 2949 := ⟨dB_old_26_m41_4_dec_13.2.2.2.2.2.2.2.2.2.2.2.2.2.2.2.2.2.2.2.2.2.2.2.2.2.2.2.1, by decide⟩
theorem d_L_2949 : decode YL.2.1 2949 = .ok (.i2l, 1) ∧ 2949 + 1 = 2950 := ⟨dB_old_26_m41_4_dec_13.2.2.2.2.2.2.2.2.2.2.2.2.2.2.2.2.2.2.2.2.2.2.2.2.2.2.2.2.1, by decide⟩
theorem d_L_2950 : decode YL.2.1 2950 = .ok (.bipush 32, 2) ∧ 2950 + 2 = 2952 := ⟨dB_old_26_m41_4_dec_13.2.2.2.2.2.2.2.2.2.2.2.2.2.2.2.2.2.2.2.2.2.2.2.2.2.2.2.2.2.1, by decide⟩
theorem dB_old_26_m41_4_dec_14 : dAll YL.2.1 [(2952, (.lshl, 1)), (2953, (.aload_n 0, 1)), (2954, (.iload_n 3, 1)), (2955, (.iconst 3, 1)), (2956, (.iadd, 1)), (2957, (.iaload, 1)), (2958, (.i2l, 1)), (2959, (.ldc2_w 13, 3)), (2962, (.land, 1)), (2963, (.lor, 1))] := dAll_of (by decide +kernel)
theorem d_L_2952 : decode YL.2.1 2952 = .ok (.lshl, 1) ∧ 2952 + 1 = 2953 := ⟨dB_old_26_m41_4_dec_14.1, by decide⟩
theorem d_L_2953 : decode YL.2.1 2953 = .ok (.aload_n 0, 1) ∧ 2953 + 1 = 2954 := ⟨dB_old_26_m41_4_dec_14.2.1, by decide⟩
theorem d_L_2954 : decode YL.2.1 2954 = .ok (.iload_n 3, 1) ∧ 2954 + 1 = 2955 := ⟨dB_old_26_m41_4_dec_14.2.2.1, by decide⟩
theorem d_L_2955 : decode YL.2.1 2955 = .ok (.iconst 3, 1) ∧ 2955 + 1 = 2956 := ⟨dB_old_26_m41_4_dec_14.2.2.2.1, by decide⟩
theorem d_L_2956 : decode YL.2.1 2956 = .ok (.iadd, 1) ∧ 2956 + 1 = 2957 := ⟨dB_old_26_m41_4_dec_14.2.2.2.2.1, by decide⟩
theorem d_L_2957 : decode YL.2.1 2957 = .ok (.iaload, 1) ∧ 2957 + 1 = 2958 := ⟨dB_old_26_m41_4_dec_14.2.2.2.2.2.1, by decide⟩
theorem d_L_2958 : decode YL.2.1 2958 = .ok (.i2l, 1) ∧ 2958 + 1 = 2959 := ⟨dB_old_26_m41_4_dec_14.2.2.2.2.2.2.1, by decide⟩
theorem d_L_2959 : decode YL.2.1 2959 = .ok (.ldc2_w 13, 3) ∧ 2959 + 3 = 2962 := ⟨dB_old_26_m41_4_dec_14.2.2.2.2.2.2.2.1, by decide⟩
theorem d_L_2962 : decode YL.2.1 2962 = .ok (.land, 1) ∧ 2962 + 1 = 2963 := ⟨dB_old_26_m41_4_dec_14.2.2.2.2.2.2.2.2.1, by decide⟩
theorem d_L_2963 : decode YL.2.1 2963 = .ok (.lor, 1) ∧ 2963 + 1 = 2964 := ⟨dB_old_26_m41_4_dec_14.2.2.2.2.2.2.2.2.2.1, by decide⟩
