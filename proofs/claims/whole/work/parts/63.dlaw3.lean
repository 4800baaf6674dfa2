theorem dL_law_2317 : decode cL_law 2317 = .ok (.iaload, 1) := by decide +kernel
theorem dL_law_2318 : decode cL_law 2318 = .ok (.invokevirtual 262, 3) := by decide +kernel
theorem dL_law_2321 : decode cL_law 2321 = .ok (.istore 7, 2) := by decide +kernel
theorem dL_law_2323 : decode cL_law 2323 = .ok (.aload_n 2, 1) := by decide +kernel
theorem dL_law_2324 : decode cL_law 2324 = .ok (.invokevirtual 167, 3) := by decide +kernel
theorem dL_law_2327 : decode cL_law 2327 = .ok (.iload 6, 2) := by decide +kernel
theorem dL_law_2329 : decode cL_law 2329 = .ok (.if_icmp .eq 5, 3) := by decide +kernel
theorem dL_law_2332 : decode cL_law 2332 = .ok (.iconst 0, 1) := by decide +kernel
theorem dL_law_2333 : decode cL_law 2333 = .ok (.ireturn, 1) := by decide +kernel
theorem dL_law_2334 : decode cL_law 2334 = .ok (.iload 6, 2) := by decide +kernel
theorem dL_law_2336 : decode cL_law 2336 = .ok (.ifCond .ne 22, 3) := by decide +kernel
theorem dL_law_2339 : decode cL_law 2339 = .ok (.aload_n 3, 1) := by decide +kernel
theorem dL_law_2340 : decode cL_law 2340 = .ok (.iconst 0, 1) := by decide +kernel
theorem dL_law_2341 : decode cL_law 2341 = .ok (.laload, 1) := by decide +kernel
theorem dL_law_2342 : decode cL_law 2342 = .ok (.iload 7, 2) := by decide +kernel
theorem dL_law_2344 : decode cL_law 2344 = .ok (.ifCond .eq 7, 3) := by decide +kernel
theorem dL_law_2347 : decode cL_law 2347 = .ok (.lconst 1, 1) := by decide +kernel
theorem dL_law_2348 : decode cL_law 2348 = .ok (.goto 4, 3) := by decide +kernel
theorem dL_law_2351 : decode cL_law 2351 = .ok (.lconst 0, 1) := by decide +kernel
theorem dL_law_2352 : decode cL_law 2352 = .ok (.lcmp, 1) := by decide +kernel
theorem dL_law_2353 : decode cL_law 2353 = .ok (.ifCond .eq 5, 3) := by decide +kernel
theorem dL_law_2356 : decode cL_law 2356 = .ok (.iconst 0, 1) := by decide +kernel
theorem dL_law_2357 : decode cL_law 2357 = .ok (.ireturn, 1) := by decide +kernel
theorem dL_law_2358 : decode cL_law 2358 = .ok (.goto 1009, 3) := by decide +kernel
theorem dL_law_2361 : decode cL_law 2361 = .ok (.aload_n 1, 1) := by decide +kernel
theorem dL_law_2362 : decode cL_law 2362 = .ok (.aload_n 0, 1) := by decide +kernel
theorem dL_law_2363 : decode cL_law 2363 = .ok (.iload 5, 2) := by decide +kernel
theorem dL_law_2365 : decode cL_law 2365 = .ok (.iconst 1, 1) := by decide +kernel
theorem dL_law_2366 : decode cL_law 2366 = .ok (.iadd, 1) := by decide +kernel
theorem dL_law_2367 : decode cL_law 2367 = .ok (.iaload, 1) := by decide +kernel
theorem dL_law_2368 : decode cL_law 2368 = .ok (.aload_n 0, 1) := by decide +kernel
theorem dL_law_2369 : decode cL_law 2369 = .ok (.iload 5, 2) := by decide +kernel
theorem dL_law_2371 : decode cL_law 2371 = .ok (.iconst 2, 1) := by decide +kernel
theorem dL_law_2372 : decode cL_law 2372 = .ok (.iadd, 1) := by decide +kernel
theorem dL_law_2373 : decode cL_law 2373 = .ok (.iaload, 1) := by decide +kernel
theorem dL_law_2374 : decode cL_law 2374 = .ok (.aload_n 0, 1) := by decide +kernel
theorem dL_law_2375 : decode cL_law 2375 = .ok (.iload 5, 2) := by decide +kernel
theorem dL_law_2377 : decode cL_law 2377 = .ok (.iconst 3, 1) := by decide +kernel
theorem dL_law_2378 : decode cL_law 2378 = .ok (.iadd, 1) := by decide +kernel
theorem dL_law_2379 : decode cL_law 2379 = .ok (.iaload, 1) := by decide +kernel
theorem dL_law_2380 : decode cL_law 2380 = .ok (.aload_n 3, 1) := by decide +kernel
theorem dL_law_2381 : decode cL_law 2381 = .ok (.invokestatic 263, 3) := by decide +kernel
theorem dL_law_2384 : decode cL_law 2384 = .ok (.istore 6, 2) := by decide +kernel
theorem dL_law_2386 : decode cL_law 2386 = .ok (.aload_n 2, 1) := by decide +kernel
theorem dL_law_2387 : decode cL_law 2387 = .ok (.aload_n 0, 1) := by decide +kernel
theorem dL_law_2388 : decode cL_law 2388 = .ok (.iload 5, 2) := by decide +kernel
theorem dL_law_2390 : decode cL_law 2390 = .ok (.iconst 1, 1) := by decide +kernel
theorem dL_law_2391 : decode cL_law 2391 = .ok (.iadd, 1) := by decide +kernel
theorem dL_law_2392 : decode cL_law 2392 = .ok (.iaload, 1) := by decide +kernel
theorem dL_law_2393 : decode cL_law 2393 = .ok (.aload_n 0, 1) := by decide +kernel
theorem dL_law_2394 : decode cL_law 2394 = .ok (.iload 5, 2) := by decide +kernel
theorem dL_law_2396 : decode cL_law 2396 = .ok (.iconst 2, 1) := by decide +kernel
theorem dL_law_2397 : decode cL_law 2397 = .ok (.iadd, 1) := by decide +kernel
theorem dL_law_2398 : decode cL_law 2398 = .ok (.iaload, 1) := by decide +kernel
theorem dL_law_2399 : decode cL_law 2399 = .ok (.aload_n 0, 1) := by decide +kernel
theorem dL_law_2400 : decode cL_law 2400 = .ok (.iload 5, 2) := by decide +kernel
theorem dL_law_2402 : decode cL_law 2402 = .ok (.iconst 3, 1) := by decide +kernel
theorem dL_law_2403 : decode cL_law 2403 = .ok (.iadd, 1) := by decide +kernel
theorem dL_law_2404 : decode cL_law 2404 = .ok (.iaload, 1) := by decide +kernel
theorem dL_law_2405 : decode cL_law 2405 = .ok (.invokevirtual 265, 3) := by decide +kernel
theorem dL_law_2408 : decode cL_law 2408 = .ok (.istore 7, 2) := by decide +kernel
theorem dL_law_2410 : decode cL_law 2410 = .ok (.aload_n 2, 1) := by decide +kernel
theorem dL_law_2411 : decode cL_law 2411 = .ok (.invokevirtual 167, 3) := by decide +kernel
theorem dL_law_2414 : decode cL_law 2414 = .ok (.iload 6, 2) := by decide +kernel
theorem dL_law_2416 : decode cL_law 2416 = .ok (.if_icmp .eq 5, 3) := by decide +kernel
theorem dL_law_2419 : decode cL_law 2419 = .ok (.iconst 0, 1) := by decide +kernel
theorem dL_law_2420 : decode cL_law 2420 = .ok (.ireturn, 1) := by decide +kernel
theorem dL_law_2421 : decode cL_law 2421 = .ok (.iload 6, 2) := by decide +kernel
theorem dL_law_2423 : decode cL_law 2423 = .ok (.ifCond .ne 15, 3) := by decide +kernel
theorem dL_law_2426 : decode cL_law 2426 = .ok (.aload_n 3, 1) := by decide +kernel
theorem dL_law_2427 : decode cL_law 2427 = .ok (.iconst 0, 1) := by decide +kernel
theorem dL_law_2428 : decode cL_law 2428 = .ok (.laload, 1) := by decide +kernel
theorem dL_law_2429 : decode cL_law 2429 = .ok (.iload 7, 2) := by decide +kernel
theorem dL_law_2431 : decode cL_law 2431 = .ok (.i2l, 1) := by decide +kernel
theorem dL_law_2432 : decode cL_law 2432 = .ok (.lcmp, 1) := by decide +kernel
theorem dL_law_2433 : decode cL_law 2433 = .ok (.ifCond .eq 5, 3) := by decide +kernel
theorem dL_law_2436 : decode cL_law 2436 = .ok (.iconst 0, 1) := by decide +kernel
theorem dL_law_2437 : decode cL_law 2437 = .ok (.ireturn, 1) := by decide +kernel
theorem dL_law_2438 : decode cL_law 2438 = .ok (.goto 929, 3) := by decide +kernel
theorem dL_law_2441 : decode cL_law 2441 = .ok (.aload_n 1, 1) := by decide +kernel
theorem dL_law_2442 : decode cL_law 2442 = .ok (.aload_n 0, 1) := by decide +kernel
theorem dL_law_2443 : decode cL_law 2443 = .ok (.iload 5, 2) := by decide +kernel
theorem dL_law_2445 : decode cL_law 2445 = .ok (.iconst 1, 1) := by decide +kernel
theorem dL_law_2446 : decode cL_law 2446 = .ok (.iadd, 1) := by decide +kernel
theorem dL_law_2447 : decode cL_law 2447 = .ok (.iaload, 1) := by decide +kernel
theorem dL_law_2448 : decode cL_law 2448 = .ok (.aload_n 0, 1) := by decide +kernel
theorem dL_law_2449 : decode cL_law 2449 = .ok (.iload 5, 2) := by decide +kernel
theorem dL_law_2451 : decode cL_law 2451 = .ok (.iconst 2, 1) := by decide +kernel
theorem dL_law_2452 : decode cL_law 2452 = .ok (.iadd, 1) := by decide +kernel
theorem dL_law_2453 : decode cL_law 2453 = .ok (.iaload, 1) := by decide +kernel
theorem dL_law_2454 : decode cL_law 2454 = .ok (.aload_n 0, 1) := by decide +kernel
theorem dL_law_2455 : decode cL_law 2455 = .ok (.iload 5, 2) := by decide +kernel
theorem dL_law_2457 : decode cL_law 2457 = .ok (.iconst 3, 1) := by decide +kernel
theorem dL_law_2458 : decode cL_law 2458 = .ok (.iadd, 1) := by decide +kernel
theorem dL_law_2459 : decode cL_law 2459 = .ok (.iaload, 1) := by decide +kernel
theorem dL_law_2460 : decode cL_law 2460 = .ok (.aload_n 3, 1) := by decide +kernel
theorem dL_law_2461 : decode cL_law 2461 = .ok (.invokestatic 266, 3) := by decide +kernel
theorem dL_law_2464 : decode cL_law 2464 = .ok (.istore 6, 2) := by decide +kernel
theorem dL_law_2466 : decode cL_law 2466 = .ok (.aload_n 2, 1) := by decide +kernel
theorem dL_law_2467 : decode cL_law 2467 = .ok (.aload_n 0, 1) := by decide +kernel
theorem dL_law_2468 : decode cL_law 2468 = .ok (.iload 5, 2) := by decide +kernel
theorem dL_law_2470 : decode cL_law 2470 = .ok (.iconst 1, 1) := by decide +kernel
theorem dL_law_2471 : decode cL_law 2471 = .ok (.iadd, 1) := by decide +kernel
theorem dL_law_2472 : decode cL_law 2472 = .ok (.iaload, 1) := by decide +kernel
theorem dL_law_2473 : decode cL_law 2473 = .ok (.aload_n 0, 1) := by decide +kernel
theorem dL_law_2474 : decode cL_law 2474 = .ok (.iload 5, 2) := by decide +kernel
theorem dL_law_2476 : decode cL_law 2476 = .ok (.iconst 2, 1) := by decide +kernel
theorem dL_law_2477 : decode cL_law 2477 = .ok (.iadd, 1) := by decide +kernel
theorem dL_law_2478 : decode cL_law 2478 = .ok (.iaload, 1) := by decide +kernel
theorem dL_law_2479 : decode cL_law 2479 = .ok (.aload_n 0, 1) := by decide +kernel
theorem dL_law_2480 : decode cL_law 2480 = .ok (.iload 5, 2) := by decide +kernel
theorem dL_law_2482 : decode cL_law 2482 = .ok (.iconst 3, 1) := by decide +kernel
theorem dL_law_2483 : decode cL_law 2483 = .ok (.iadd, 1) := by decide +kernel
theorem dL_law_2484 : decode cL_law 2484 = .ok (.iaload, 1) := by decide +kernel
theorem dL_law_2485 : decode cL_law 2485 = .ok (.invokevirtual 268, 3) := by decide +kernel
theorem dL_law_2488 : decode cL_law 2488 = .ok (.istore 7, 2) := by decide +kernel
theorem dL_law_2490 : decode cL_law 2490 = .ok (.aload_n 2, 1) := by decide +kernel
theorem dL_law_2491 : decode cL_law 2491 = .ok (.invokevirtual 167, 3) := by decide +kernel
theorem dL_law_2494 : decode cL_law 2494 = .ok (.iload 6, 2) := by decide +kernel
theorem dL_law_2496 : decode cL_law 2496 = .ok (.if_icmp .eq 5, 3) := by decide +kernel
theorem dL_law_2499 : decode cL_law 2499 = .ok (.iconst 0, 1) := by decide +kernel
theorem dL_law_2500 : decode cL_law 2500 = .ok (.ireturn, 1) := by decide +kernel
theorem dL_law_2501 : decode cL_law 2501 = .ok (.iload 6, 2) := by decide +kernel
theorem dL_law_2503 : decode cL_law 2503 = .ok (.ifCond .ne 15, 3) := by decide +kernel
theorem dL_law_2506 : decode cL_law 2506 = .ok (.aload_n 3, 1) := by decide +kernel
theorem dL_law_2507 : decode cL_law 2507 = .ok (.iconst 0, 1) := by decide +kernel
theorem dL_law_2508 : decode cL_law 2508 = .ok (.laload, 1) := by decide +kernel
theorem dL_law_2509 : decode cL_law 2509 = .ok (.iload 7, 2) := by decide +kernel
theorem dL_law_2511 : decode cL_law 2511 = .ok (.i2l, 1) := by decide +kernel
theorem dL_law_2512 : decode cL_law 2512 = .ok (.lcmp, 1) := by decide +kernel
theorem dL_law_2513 : decode cL_law 2513 = .ok (.ifCond .eq 5, 3) := by decide +kernel
theorem dL_law_2516 : decode cL_law 2516 = .ok (.iconst 0, 1) := by decide +kernel
theorem dL_law_2517 : decode cL_law 2517 = .ok (.ireturn, 1) := by decide +kernel
theorem dL_law_2518 : decode cL_law 2518 = .ok (.goto 849, 3) := by decide +kernel
theorem dL_law_2521 : decode cL_law 2521 = .ok (.aload_n 1, 1) := by decide +kernel
theorem dL_law_2522 : decode cL_law 2522 = .ok (.aload_n 0, 1) := by decide +kernel
theorem dL_law_2523 : decode cL_law 2523 = .ok (.iload 5, 2) := by decide +kernel
theorem dL_law_2525 : decode cL_law 2525 = .ok (.iconst 1, 1) := by decide +kernel
theorem dL_law_2526 : decode cL_law 2526 = .ok (.iadd, 1) := by decide +kernel
theorem dL_law_2527 : decode cL_law 2527 = .ok (.iaload, 1) := by decide +kernel
theorem dL_law_2528 : decode cL_law 2528 = .ok (.aload_n 0, 1) := by decide +kernel
theorem dL_law_2529 : decode cL_law 2529 = .ok (.iload 5, 2) := by decide +kernel
theorem dL_law_2531 : decode cL_law 2531 = .ok (.iconst 2, 1) := by decide +kernel
theorem dL_law_2532 : decode cL_law 2532 = .ok (.iadd, 1) := by decide +kernel
theorem dL_law_2533 : decode cL_law 2533 = .ok (.iaload, 1) := by decide +kernel
theorem dL_law_2534 : decode cL_law 2534 = .ok (.aload_n 0, 1) := by decide +kernel
theorem dL_law_2535 : decode cL_law 2535 = .ok (.iload 5, 2) := by decide +kernel
theorem dL_law_2537 : decode cL_law 2537 = .ok (.iconst 3, 1) := by decide +kernel
theorem dL_law_2538 : decode cL_law 2538 = .ok (.iadd, 1) := by decide +kernel
theorem dL_law_2539 : decode cL_law 2539 = .ok (.iaload, 1) := by decide +kernel
theorem dL_law_2540 : decode cL_law 2540 = .ok (.aload_n 0, 1) := by decide +kernel
theorem dL_law_2541 : decode cL_law 2541 = .ok (.iload 5, 2) := by decide +kernel
theorem dL_law_2543 : decode cL_law 2543 = .ok (.iconst 4, 1) := by decide +kernel
theorem dL_law_2544 : decode cL_law 2544 = .ok (.iadd, 1) := by decide +kernel
theorem dL_law_2545 : decode cL_law 2545 = .ok (.iaload, 1) := by decide +kernel
theorem dL_law_2546 : decode cL_law 2546 = .ok (.aload_n 3, 1) := by decide +kernel
theorem dL_law_2547 : decode cL_law 2547 = .ok (.invokestatic 269, 3) := by decide +kernel
theorem dL_law_2550 : decode cL_law 2550 = .ok (.istore 6, 2) := by decide +kernel
theorem dL_law_2552 : decode cL_law 2552 = .ok (.aload_n 2, 1) := by decide +kernel
theorem dL_law_2553 : decode cL_law 2553 = .ok (.aload_n 0, 1) := by decide +kernel
theorem dL_law_2554 : decode cL_law 2554 = .ok (.iload 5, 2) := by decide +kernel
theorem dL_law_2556 : decode cL_law 2556 = .ok (.iconst 1, 1) := by decide +kernel
theorem dL_law_2557 : decode cL_law 2557 = .ok (.iadd, 1) := by decide +kernel
theorem dL_law_2558 : decode cL_law 2558 = .ok (.iaload, 1) := by decide +kernel
theorem dL_law_2559 : decode cL_law 2559 = .ok (.aload_n 0, 1) := by decide +kernel
theorem dL_law_2560 : decode cL_law 2560 = .ok (.iload 5, 2) := by decide +kernel
theorem dL_law_2562 : decode cL_law 2562 = .ok (.iconst 2, 1) := by decide +kernel
theorem dL_law_2563 : decode cL_law 2563 = .ok (.iadd, 1) := by decide +kernel
theorem dL_law_2564 : decode cL_law 2564 = .ok (.iaload, 1) := by decide +kernel
theorem dL_law_2565 : decode cL_law 2565 = .ok (.aload_n 0, 1) := by decide +kernel
theorem dL_law_2566 : decode cL_law 2566 = .ok (.iload 5, 2) := by decide +kernel
theorem dL_law_2568 : decode cL_law 2568 = .ok (.iconst 3, 1) := by decide +kernel
theorem dL_law_2569 : decode cL_law 2569 = .ok (.iadd, 1) := by decide +kernel
theorem dL_law_2570 : decode cL_law 2570 = .ok (.iaload, 1) := by decide +kernel
theorem dL_law_2571 : decode cL_law 2571 = .ok (.aload_n 0, 1) := by decide +kernel
theorem dL_law_2572 : decode cL_law 2572 = .ok (.iload 5, 2) := by decide +kernel
theorem dL_law_2574 : decode cL_law 2574 = .ok (.iconst 4, 1) := by decide +kernel
theorem dL_law_2575 : decode cL_law 2575 = .ok (.iadd, 1) := by decide +kernel
theorem dL_law_2576 : decode cL_law 2576 = .ok (.iaload, 1) := by decide +kernel
theorem dL_law_2577 : decode cL_law 2577 = .ok (.invokevirtual 271, 3) := by decide +kernel
theorem dL_law_2580 : decode cL_law 2580 = .ok (.istore 7, 2) := by decide +kernel
theorem dL_law_2582 : decode cL_law 2582 = .ok (.aload_n 2, 1) := by decide +kernel
theorem dL_law_2583 : decode cL_law 2583 = .ok (.invokevirtual 167, 3) := by decide +kernel
theorem dL_law_2586 : decode cL_law 2586 = .ok (.iload 6, 2) := by decide +kernel
theorem dL_law_2588 : decode cL_law 2588 = .ok (.if_icmp .eq 5, 3) := by decide +kernel
theorem dL_law_2591 : decode cL_law 2591 = .ok (.iconst 0, 1) := by decide +kernel
theorem dL_law_2592 : decode cL_law 2592 = .ok (.ireturn, 1) := by decide +kernel
theorem dL_law_2593 : decode cL_law 2593 = .ok (.iload 6, 2) := by decide +kernel
theorem dL_law_2595 : decode cL_law 2595 = .ok (.ifCond .ne 15, 3) := by decide +kernel
theorem dL_law_2598 : decode cL_law 2598 = .ok (.aload_n 3, 1) := by decide +kernel
theorem dL_law_2599 : decode cL_law 2599 = .ok (.iconst 0, 1) := by decide +kernel
theorem dL_law_2600 : decode cL_law 2600 = .ok (.laload, 1) := by decide +kernel
theorem dL_law_2601 : decode cL_law 2601 = .ok (.iload 7, 2) := by decide +kernel
theorem dL_law_2603 : decode cL_law 2603 = .ok (.i2l, 1) := by decide +kernel
theorem dL_law_2604 : decode cL_law 2604 = .ok (.lcmp, 1) := by decide +kernel
theorem dL_law_2605 : decode cL_law 2605 = .ok (.ifCond .eq 5, 3) := by decide +kernel
theorem dL_law_2608 : decode cL_law 2608 = .ok (.iconst 0, 1) := by decide +kernel
theorem dL_law_2609 : decode cL_law 2609 = .ok (.ireturn, 1) := by decide +kernel
theorem dL_law_2610 : decode cL_law 2610 = .ok (.goto 757, 3) := by decide +kernel
theorem dL_law_2613 : decode cL_law 2613 = .ok (.aload_n 1, 1) := by decide +kernel
theorem dL_law_2614 : decode cL_law 2614 = .ok (.aload_n 0, 1) := by decide +kernel
theorem dL_law_2615 : decode cL_law 2615 = .ok (.iload 5, 2) := by decide +kernel
theorem dL_law_2617 : decode cL_law 2617 = .ok (.iconst 1, 1) := by decide +kernel
theorem dL_law_2618 : decode cL_law 2618 = .ok (.iadd, 1) := by decide +kernel
theorem dL_law_2619 : decode cL_law 2619 = .ok (.iaload, 1) := by decide +kernel
theorem dL_law_2620 : decode cL_law 2620 = .ok (.aload_n 0, 1) := by decide +kernel
theorem dL_law_2621 : decode cL_law 2621 = .ok (.iload 5, 2) := by decide +kernel
theorem dL_law_2623 : decode cL_law 2623 = .ok (.iconst 2, 1) := by decide +kernel
theorem dL_law_2624 : decode cL_law 2624 = .ok (.iadd, 1) := by decide +kernel
theorem dL_law_2625 : decode cL_law 2625 = .ok (.iaload, 1) := by decide +kernel
theorem dL_law_2626 : decode cL_law 2626 = .ok (.aload_n 0, 1) := by decide +kernel
theorem dL_law_2627 : decode cL_law 2627 = .ok (.iload 5, 2) := by decide +kernel
theorem dL_law_2629 : decode cL_law 2629 = .ok (.iconst 3, 1) := by decide +kernel
theorem dL_law_2630 : decode cL_law 2630 = .ok (.iadd, 1) := by decide +kernel
theorem dL_law_2631 : decode cL_law 2631 = .ok (.iaload, 1) := by decide +kernel
theorem dL_law_2632 : decode cL_law 2632 = .ok (.aload_n 3, 1) := by decide +kernel
theorem dL_law_2633 : decode cL_law 2633 = .ok (.invokestatic 272, 3) := by decide +kernel
theorem dL_law_2636 : decode cL_law 2636 = .ok (.istore 6, 2) := by decide +kernel
theorem dL_law_2638 : decode cL_law 2638 = .ok (.aload_n 2, 1) := by decide +kernel
theorem dL_law_2639 : decode cL_law 2639 = .ok (.aload_n 0, 1) := by decide +kernel
theorem dL_law_2640 : decode cL_law 2640 = .ok (.iload 5, 2) := by decide +kernel
theorem dL_law_2642 : decode cL_law 2642 = .ok (.iconst 1, 1) := by decide +kernel
theorem dL_law_2643 : decode cL_law 2643 = .ok (.iadd, 1) := by decide +kernel
theorem dL_law_2644 : decode cL_law 2644 = .ok (.iaload, 1) := by decide +kernel
theorem dL_law_2645 : decode cL_law 2645 = .ok (.aload_n 0, 1) := by decide +kernel
theorem dL_law_2646 : decode cL_law 2646 = .ok (.iload 5, 2) := by decide +kernel
theorem dL_law_2648 : decode cL_law 2648 = .ok (.iconst 2, 1) := by decide +kernel
theorem dL_law_2649 : decode cL_law 2649 = .ok (.iadd, 1) := by decide +kernel
theorem dL_law_2650 : decode cL_law 2650 = .ok (.iaload, 1) := by decide +kernel
theorem dL_law_2651 : decode cL_law 2651 = .ok (.aload_n 0, 1) := by decide +kernel
theorem dL_law_2652 : decode cL_law 2652 = .ok (.iload 5, 2) := by decide +kernel
theorem dL_law_2654 : decode cL_law 2654 = .ok (.iconst 3, 1) := by decide +kernel
theorem dL_law_2655 : decode cL_law 2655 = .ok (.iadd, 1) := by decide +kernel
theorem dL_law_2656 : decode cL_law 2656 = .ok (.iaload, 1) := by decide +kernel
theorem dL_law_2657 : decode cL_law 2657 = .ok (.invokevirtual 274, 3) := by decide +kernel
theorem dL_law_2660 : decode cL_law 2660 = .ok (.istore 7, 2) := by decide +kernel
theorem dL_law_2662 : decode cL_law 2662 = .ok (.aload_n 2, 1) := by decide +kernel
theorem dL_law_2663 : decode cL_law 2663 = .ok (.invokevirtual 167, 3) := by decide +kernel
theorem dL_law_2666 : decode cL_law 2666 = .ok (.iload 6, 2) := by decide +kernel
theorem dL_law_2668 : decode cL_law 2668 = .ok (.if_icmp .eq 5, 3) := by decide +kernel
theorem dL_law_2671 : decode cL_law 2671 = .ok (.iconst 0, 1) := by decide +kernel
theorem dL_law_2672 : decode cL_law 2672 = .ok (.ireturn, 1) := by decide +kernel
theorem dL_law_2673 : decode cL_law 2673 = .ok (.iload 6, 2) := by decide +kernel
theorem dL_law_2675 : decode cL_law 2675 = .ok (.ifCond .ne 15, 3) := by decide +kernel
theorem dL_law_2678 : decode cL_law 2678 = .ok (.aload_n 3, 1) := by decide +kernel
theorem dL_law_2679 : decode cL_law 2679 = .ok (.iconst 0, 1) := by decide +kernel
theorem dL_law_2680 : decode cL_law 2680 = .ok (.laload, 1) := by decide +kernel
theorem dL_law_2681 : decode cL_law 2681 = .ok (.iload 7, 2) := by decide +kernel
theorem dL_law_2683 : decode cL_law 2683 = .ok (.i2l, 1) := by decide +kernel
theorem dL_law_2684 : decode cL_law 2684 = .ok (.lcmp, 1) := by decide +kernel
theorem dL_law_2685 : decode cL_law 2685 = .ok (.ifCond .eq 5, 3) := by decide +kernel
theorem dL_law_2688 : decode cL_law 2688 = .ok (.iconst 0, 1) := by decide +kernel
theorem dL_law_2689 : decode cL_law 2689 = .ok (.ireturn, 1) := by decide +kernel
theorem dL_law_2690 : decode cL_law 2690 = .ok (.goto 677, 3) := by decide +kernel
theorem dL_law_2693 : decode cL_law 2693 = .ok (.aload_n 1, 1) := by decide +kernel
theorem dL_law_2694 : decode cL_law 2694 = .ok (.aload_n 0, 1) := by decide +kernel
theorem dL_law_2695 : decode cL_law 2695 = .ok (.iload 5, 2) := by decide +kernel
theorem dL_law_2697 : decode cL_law 2697 = .ok (.iconst 1, 1) := by decide +kernel
theorem dL_law_2698 : decode cL_law 2698 = .ok (.iadd, 1) := by decide +kernel
theorem dL_law_2699 : decode cL_law 2699 = .ok (.iaload, 1) := by decide +kernel
theorem dL_law_2700 : decode cL_law 2700 = .ok (.aload_n 0, 1) := by decide +kernel
theorem dL_law_2701 : decode cL_law 2701 = .ok (.iload 5, 2) := by decide +kernel
theorem dL_law_2703 : decode cL_law 2703 = .ok (.iconst 2, 1) := by decide +kernel
theorem dL_law_2704 : decode cL_law 2704 = .ok (.iadd, 1) := by decide +kernel
theorem dL_law_2705 : decode cL_law 2705 = .ok (.iaload, 1) := by decide +kernel
theorem dL_law_2706 : decode cL_law 2706 = .ok (.aload_n 0, 1) := by decide +kernel
theorem dL_law_2707 : decode cL_law 2707 = .ok (.iload 5, 2) := by decide +kernel
theorem dL_law_2709 : decode cL_law 2709 = .ok (.iconst 3, 1) := by decide +kernel
theorem dL_law_2710 : decode cL_law 2710 = .ok (.iadd, 1) := by decide +kernel
theorem dL_law_2711 : decode cL_law 2711 = .ok (.iaload, 1) := by decide +kernel
theorem dL_law_2712 : decode cL_law 2712 = .ok (.aload_n 0, 1) := by decide +kernel
theorem dL_law_2713 : decode cL_law 2713 = .ok (.iload 5, 2) := by decide +kernel
theorem dL_law_2715 : decode cL_law 2715 = .ok (.iconst 4, 1) := by decide +kernel
theorem dL_law_2716 : decode cL_law 2716 = .ok (.iadd, 1) := by decide +kernel
theorem dL_law_2717 : decode cL_law 2717 = .ok (.iaload, 1) := by decide +kernel
theorem dL_law_2718 : decode cL_law 2718 = .ok (.aload_n 3, 1) := by decide +kernel
theorem dL_law_2719 : decode cL_law 2719 = .ok (.invokestatic 275, 3) := by decide +kernel
theorem dL_law_2722 : decode cL_law 2722 = .ok (.istore 6, 2) := by decide +kernel
theorem dL_law_2724 : decode cL_law 2724 = .ok (.aload_n 2, 1) := by decide +kernel
theorem dL_law_2725 : decode cL_law 2725 = .ok (.aload_n 0, 1) := by decide +kernel
theorem dL_law_2726 : decode cL_law 2726 = .ok (.iload 5, 2) := by decide +kernel
theorem dL_law_2728 : decode cL_law 2728 = .ok (.iconst 1, 1) := by decide +kernel
theorem dL_law_2729 : decode cL_law 2729 = .ok (.iadd, 1) := by decide +kernel
theorem dL_law_2730 : decode cL_law 2730 = .ok (.iaload, 1) := by decide +kernel
theorem dL_law_2731 : decode cL_law 2731 = .ok (.aload_n 0, 1) := by decide +kernel
theorem dL_law_2732 : decode cL_law 2732 = .ok (.iload 5, 2) := by decide +kernel
theorem dL_law_2734 : decode cL_law 2734 = .ok (.iconst 2, 1) := by decide +kernel
theorem dL_law_2735 : decode cL_law 2735 = .ok (.iadd, 1) := by decide +kernel
theorem dL_law_2736 : decode cL_law 2736 = .ok (.iaload, 1) := by decide +kernel
theorem dL_law_2737 : decode cL_law 2737 = .ok (.aload_n 0, 1) := by decide +kernel
theorem dL_law_2738 : decode cL_law 2738 = .ok (.iload 5, 2) := by decide +kernel
theorem dL_law_2740 : decode cL_law 2740 = .ok (.iconst 3, 1) := by decide +kernel
theorem dL_law_2741 : decode cL_law 2741 = .ok (.iadd, 1) := by decide +kernel
theorem dL_law_2742 : decode cL_law 2742 = .ok (.iaload, 1) := by decide +kernel
theorem dL_law_2743 : decode cL_law 2743 = .ok (.aload_n 0, 1) := by decide +kernel
theorem dL_law_2744 : decode cL_law 2744 = .ok (.iload 5, 2) := by decide +kernel
theorem dL_law_2746 : decode cL_law 2746 = .ok (.iconst 4, 1) := by decide +kernel
theorem dL_law_2747 : decode cL_law 2747 = .ok (.iadd, 1) := by decide +kernel
theorem dL_law_2748 : decode cL_law 2748 = .ok (.iaload, 1) := by decide +kernel
theorem dL_law_2749 : decode cL_law 2749 = .ok (.invokevirtual 277, 3) := by decide +kernel
theorem dL_law_2752 : decode cL_law 2752 = .ok (.istore 7, 2) := by decide +kernel
theorem dL_law_2754 : decode cL_law 2754 = .ok (.aload_n 2, 1) := by decide +kernel
theorem dL_law_2755 : decode cL_law 2755 = .ok (.invokevirtual 167, 3) := by decide +kernel
theorem dL_law_2758 : decode cL_law 2758 = .ok (.iload 6, 2) := by decide +kernel
theorem dL_law_2760 : decode cL_law 2760 = .ok (.if_icmp .eq 5, 3) := by decide +kernel
theorem dL_law_2763 : decode cL_law 2763 = .ok (.iconst 0, 1) := by decide +kernel
theorem dL_law_2764 : decode cL_law 2764 = .ok (.ireturn, 1) := by decide +kernel
theorem dL_law_2765 : decode cL_law 2765 = .ok (.iload 6, 2) := by decide +kernel
theorem dL_law_2767 : decode cL_law 2767 = .ok (.ifCond .ne 15, 3) := by decide +kernel
theorem dL_law_2770 : decode cL_law 2770 = .ok (.aload_n 3, 1) := by decide +kernel
theorem dL_law_2771 : decode cL_law 2771 = .ok (.iconst 0, 1) := by decide +kernel
theorem dL_law_2772 : decode cL_law 2772 = .ok (.laload, 1) := by decide +kernel
theorem dL_law_2773 : decode cL_law 2773 = .ok (.iload 7, 2) := by decide +kernel
theorem dL_law_2775 : decode cL_law 2775 = .ok (.i2l, 1) := by decide +kernel
theorem dL_law_2776 : decode cL_law 2776 = .ok (.lcmp, 1) := by decide +kernel
theorem dL_law_2777 : decode cL_law 2777 = .ok (.ifCond .eq 5, 3) := by decide +kernel
theorem dL_law_2780 : decode cL_law 2780 = .ok (.iconst 0, 1) := by decide +kernel
theorem dL_law_2781 : decode cL_law 2781 = .ok (.ireturn, 1) := by decide +kernel
theorem dL_law_2782 : decode cL_law 2782 = .ok (.goto 585, 3) := by decide +kernel
theorem dL_law_2785 : decode cL_law 2785 = .ok (.aload_n 1, 1) := by decide +kernel
theorem dL_law_2786 : decode cL_law 2786 = .ok (.aload_n 0, 1) := by decide +kernel
theorem dL_law_2787 : decode cL_law 2787 = .ok (.iload 5, 2) := by decide +kernel
theorem dL_law_2789 : decode cL_law 2789 = .ok (.iconst 1, 1) := by decide +kernel
theorem dL_law_2790 : decode cL_law 2790 = .ok (.iadd, 1) := by decide +kernel
theorem dL_law_2791 : decode cL_law 2791 = .ok (.iaload, 1) := by decide +kernel
theorem dL_law_2792 : decode cL_law 2792 = .ok (.aload_n 0, 1) := by decide +kernel
theorem dL_law_2793 : decode cL_law 2793 = .ok (.iload 5, 2) := by decide +kernel
theorem dL_law_2795 : decode cL_law 2795 = .ok (.iconst 2, 1) := by decide +kernel
theorem dL_law_2796 : decode cL_law 2796 = .ok (.iadd, 1) := by decide +kernel
theorem dL_law_2797 : decode cL_law 2797 = .ok (.iaload, 1) := by decide +kernel
theorem dL_law_2798 : decode cL_law 2798 = .ok (.aload_n 3, 1) := by decide +kernel
theorem dL_law_2799 : decode cL_law 2799 = .ok (.invokestatic 278, 3) := by decide +kernel
theorem dL_law_2802 : decode cL_law 2802 = .ok (.istore 6, 2) := by decide +kernel
theorem dL_law_2804 : decode cL_law 2804 = .ok (.aload_n 2, 1) := by decide +kernel
theorem dL_law_2805 : decode cL_law 2805 = .ok (.aload_n 0, 1) := by decide +kernel
theorem dL_law_2806 : decode cL_law 2806 = .ok (.iload 5, 2) := by decide +kernel
theorem dL_law_2808 : decode cL_law 2808 = .ok (.iconst 1, 1) := by decide +kernel
theorem dL_law_2809 : decode cL_law 2809 = .ok (.iadd, 1) := by decide +kernel
theorem dL_law_2810 : decode cL_law 2810 = .ok (.iaload, 1) := by decide +kernel
theorem dL_law_2811 : decode cL_law 2811 = .ok (.aload_n 0, 1) := by decide +kernel
theorem dL_law_2812 : decode cL_law 2812 = .ok (.iload 5, 2) := by decide +kernel
theorem dL_law_2814 : decode cL_law 2814 = .ok (.iconst 2, 1) := by decide +kernel
theorem dL_law_2815 : decode cL_law 2815 = .ok (.iadd, 1) := by decide +kernel
theorem dL_law_2816 : decode cL_law 2816 = .ok (.iaload, 1) := by decide +kernel
theorem dL_law_2817 : decode cL_law 2817 = .ok (.invokevirtual 280, 3) := by decide +kernel
theorem dL_law_2820 : decode cL_law 2820 = .ok (.istore 7, 2) := by decide +kernel
theorem dL_law_2822 : decode cL_law 2822 = .ok (.aload_n 2, 1) := by decide +kernel
theorem dL_law_2823 : decode cL_law 2823 = .ok (.invokevirtual 167, 3) := by decide +kernel
theorem dL_law_2826 : decode cL_law 2826 = .ok (.iload 6, 2) := by decide +kernel
theorem dL_law_2828 : decode cL_law 2828 = .ok (.if_icmp .eq 5, 3) := by decide +kernel
theorem dL_law_2831 : decode cL_law 2831 = .ok (.iconst 0, 1) := by decide +kernel
theorem dL_law_2832 : decode cL_law 2832 = .ok (.ireturn, 1) := by decide +kernel
theorem dL_law_2833 : decode cL_law 2833 = .ok (.iload 6, 2) := by decide +kernel
theorem dL_law_2835 : decode cL_law 2835 = .ok (.ifCond .ne 15, 3) := by decide +kernel
theorem dL_law_2838 : decode cL_law 2838 = .ok (.aload_n 3, 1) := by decide +kernel
theorem dL_law_2839 : decode cL_law 2839 = .ok (.iconst 0, 1) := by decide +kernel
theorem dL_law_2840 : decode cL_law 2840 = .ok (.laload, 1) := by decide +kernel
theorem dL_law_2841 : decode cL_law 2841 = .ok (.iload 7, 2) := by decide +kernel
theorem dL_law_2843 : decode cL_law 2843 = .ok (.i2l, 1) := by decide +kernel
theorem dL_law_2844 : decode cL_law 2844 = .ok (.lcmp, 1) := by decide +kernel
theorem dL_law_2845 : decode cL_law 2845 = .ok (.ifCond .eq 5, 3) := by decide +kernel
theorem dL_law_2848 : decode cL_law 2848 = .ok (.iconst 0, 1) := by decide +kernel
theorem dL_law_2849 : decode cL_law 2849 = .ok (.ireturn, 1) := by decide +kernel
theorem dL_law_2850 : decode cL_law 2850 = .ok (.goto 517, 3) := by decide +kernel
theorem dL_law_2853 : decode cL_law 2853 = .ok (.aload_n 1, 1) := by decide +kernel
theorem dL_law_2854 : decode cL_law 2854 = .ok (.aload_n 0, 1) := by decide +kernel
theorem dL_law_2855 : decode cL_law 2855 = .ok (.iload 5, 2) := by decide +kernel
theorem dL_law_2857 : decode cL_law 2857 = .ok (.iconst 1, 1) := by decide +kernel
theorem dL_law_2858 : decode cL_law 2858 = .ok (.iadd, 1) := by decide +kernel
theorem dL_law_2859 : decode cL_law 2859 = .ok (.iaload, 1) := by decide +kernel
theorem dL_law_2860 : decode cL_law 2860 = .ok (.aload_n 0, 1) := by decide +kernel
theorem dL_law_2861 : decode cL_law 2861 = .ok (.iload 5, 2) := by decide +kernel
theorem dL_law_2863 : decode cL_law 2863 = .ok (.iconst 2, 1) := by decide +kernel
theorem dL_law_2864 : decode cL_law 2864 = .ok (.iadd, 1) := by decide +kernel
theorem dL_law_2865 : decode cL_law 2865 = .ok (.iaload, 1) := by decide +kernel
theorem dL_law_2866 : decode cL_law 2866 = .ok (.aload_n 3, 1) := by decide +kernel
theorem dL_law_2867 : decode cL_law 2867 = .ok (.invokestatic 281, 3) := by decide +kernel
theorem dL_law_2870 : decode cL_law 2870 = .ok (.istore 6, 2) := by decide +kernel
theorem dL_law_2872 : decode cL_law 2872 = .ok (.aload_n 2, 1) := by decide +kernel
theorem dL_law_2873 : decode cL_law 2873 = .ok (.aload_n 0, 1) := by decide +kernel
theorem dL_law_2874 : decode cL_law 2874 = .ok (.iload 5, 2) := by decide +kernel
theorem dL_law_2876 : decode cL_law 2876 = .ok (.iconst 1, 1) := by decide +kernel
theorem dL_law_2877 : decode cL_law 2877 = .ok (.iadd, 1) := by decide +kernel
theorem dL_law_2878 : decode cL_law 2878 = .ok (.iaload, 1) := by decide +kernel
theorem dL_law_2879 : decode cL_law 2879 = .ok (.aload_n 0, 1) := by decide +kernel
theorem dL_law_2880 : decode cL_law 2880 = .ok (.iload 5, 2) := by decide +kernel
theorem dL_law_2882 : decode cL_law 2882 = .ok (.iconst 2, 1) := by decide +kernel
theorem dL_law_2883 : decode cL_law 2883 = .ok (.iadd, 1) := by decide +kernel
theorem dL_law_2884 : decode cL_law 2884 = .ok (.iaload, 1) := by decide +kernel
theorem dL_law_2885 : decode cL_law 2885 = .ok (.invokevirtual 283, 3) := by decide +kernel
theorem dL_law_2888 : decode cL_law 2888 = .ok (.istore 7, 2) := by decide +kernel
theorem dL_law_2890 : decode cL_law 2890 = .ok (.aload_n 2, 1) := by decide +kernel
theorem dL_law_2891 : decode cL_law 2891 = .ok (.invokevirtual 167, 3) := by decide +kernel
theorem dL_law_2894 : decode cL_law 2894 = .ok (.iload 6, 2) := by decide +kernel
theorem dL_law_2896 : decode cL_law 2896 = .ok (.if_icmp .eq 5, 3) := by decide +kernel
theorem dL_law_2899 : decode cL_law 2899 = .ok (.iconst 0, 1) := by decide +kernel
theorem dL_law_2900 : decode cL_law 2900 = .ok (.ireturn, 1) := by decide +kernel
theorem dL_law_2901 : decode cL_law 2901 = .ok (.iload 6, 2) := by decide +kernel
theorem dL_law_2903 : decode cL_law 2903 = .ok (.ifCond .ne 15, 3) := by decide +kernel
theorem dL_law_2906 : decode cL_law 2906 = .ok (.aload_n 3, 1) := by decide +kernel
theorem dL_law_2907 : decode cL_law 2907 = .ok (.iconst 0, 1) := by decide +kernel
theorem dL_law_2908 : decode cL_law 2908 = .ok (.laload, 1) := by decide +kernel
theorem dL_law_2909 : decode cL_law 2909 = .ok (.iload 7, 2) := by decide +kernel
theorem dL_law_2911 : decode cL_law 2911 = .ok (.i2l, 1) := by decide +kernel
theorem dL_law_2912 : decode cL_law 2912 = .ok (.lcmp, 1) := by decide +kernel
theorem dL_law_2913 : decode cL_law 2913 = .ok (.ifCond .eq 5, 3) := by decide +kernel
theorem dL_law_2916 : decode cL_law 2916 = .ok (.iconst 0, 1) := by decide +kernel
theorem dL_law_2917 : decode cL_law 2917 = .ok (.ireturn, 1) := by decide +kernel
theorem dL_law_2918 : decode cL_law 2918 = .ok (.goto 449, 3) := by decide +kernel
theorem dL_law_2921 : decode cL_law 2921 = .ok (.aload_n 1, 1) := by decide +kernel
theorem dL_law_2922 : decode cL_law 2922 = .ok (.aload_n 0, 1) := by decide +kernel
theorem dL_law_2923 : decode cL_law 2923 = .ok (.iload 5, 2) := by decide +kernel
theorem dL_law_2925 : decode cL_law 2925 = .ok (.iconst 1, 1) := by decide +kernel
theorem dL_law_2926 : decode cL_law 2926 = .ok (.iadd, 1) := by decide +kernel
theorem dL_law_2927 : decode cL_law 2927 = .ok (.iaload, 1) := by decide +kernel
theorem dL_law_2928 : decode cL_law 2928 = .ok (.aload_n 0, 1) := by decide +kernel
theorem dL_law_2929 : decode cL_law 2929 = .ok (.iload 5, 2) := by decide +kernel
theorem dL_law_2931 : decode cL_law 2931 = .ok (.iconst 2, 1) := by decide +kernel
theorem dL_law_2932 : decode cL_law 2932 = .ok (.iadd, 1) := by decide +kernel
theorem dL_law_2933 : decode cL_law 2933 = .ok (.iaload, 1) := by decide +kernel
theorem dL_law_2934 : decode cL_law 2934 = .ok (.aload_n 0, 1) := by decide +kernel
theorem dL_law_2935 : decode cL_law 2935 = .ok (.iload 5, 2) := by decide +kernel
theorem dL_law_2937 : decode cL_law 2937 = .ok (.iconst 3, 1) := by decide +kernel
theorem dL_law_2938 : decode cL_law 2938 = .ok (.iadd, 1) := by decide +kernel
theorem dL_law_2939 : decode cL_law 2939 = .ok (.iaload, 1) := by decide +kernel
theorem dL_law_2940 : decode cL_law 2940 = .ok (.aload_n 3, 1) := by decide +kernel
theorem dL_law_2941 : decode cL_law 2941 = .ok (.invokestatic 284, 3) := by decide +kernel
theorem dL_law_2944 : decode cL_law 2944 = .ok (.istore 6, 2) := by decide +kernel
theorem dL_law_2946 : decode cL_law 2946 = .ok (.aload_n 2, 1) := by decide +kernel
theorem dL_law_2947 : decode cL_law 2947 = .ok (.aload_n 0, 1) := by decide +kernel
theorem dL_law_2948 : decode cL_law 2948 = .ok (.iload 5, 2) := by decide +kernel
theorem dL_law_2950 : decode cL_law 2950 = .ok (.iconst 1, 1) := by decide +kernel
theorem dL_law_2951 : decode cL_law 2951 = .ok (.iadd, 1) := by decide +kernel
theorem dL_law_2952 : decode cL_law 2952 = .ok (.iaload, 1) := by decide +kernel
theorem dL_law_2953 : decode cL_law 2953 = .ok (.aload_n 0, 1) := by decide +kernel
theorem dL_law_2954 : decode cL_law 2954 = .ok (.iload 5, 2) := by decide +kernel
theorem dL_law_2956 : decode cL_law 2956 = .ok (.iconst 2, 1) := by decide +kernel
theorem dL_law_2957 : decode cL_law 2957 = .ok (.iadd, 1) := by decide +kernel
theorem dL_law_2958 : decode cL_law 2958 = .ok (.iaload, 1) := by decide +kernel
theorem dL_law_2959 : decode cL_law 2959 = .ok (.aload_n 0, 1) := by decide +kernel
theorem dL_law_2960 : decode cL_law 2960 = .ok (.iload 5, 2) := by decide +kernel
theorem dL_law_2962 : decode cL_law 2962 = .ok (.iconst 3, 1) := by decide +kernel
theorem dL_law_2963 : decode cL_law 2963 = .ok (.iadd, 1) := by decide +kernel
theorem dL_law_2964 : decode cL_law 2964 = .ok (.iaload, 1) := by decide +kernel
theorem dL_law_2965 : decode cL_law 2965 = .ok (.invokevirtual 286, 3) := by decide +kernel
theorem dL_law_2968 : decode cL_law 2968 = .ok (.istore 7, 2) := by decide +kernel
theorem dL_law_2970 : decode cL_law 2970 = .ok (.aload_n 2, 1) := by decide +kernel
theorem dL_law_2971 : decode cL_law 2971 = .ok (.invokevirtual 167, 3) := by decide +kernel
theorem dL_law_2974 : decode cL_law 2974 = .ok (.iload 6, 2) := by decide +kernel
theorem dL_law_2976 : decode cL_law 2976 = .ok (.if_icmp .eq 5, 3) := by decide +kernel
theorem dL_law_2979 : decode cL_law 2979 = .ok (.iconst 0, 1) := by decide +kernel
theorem dL_law_2980 : decode cL_law 2980 = .ok (.ireturn, 1) := by decide +kernel
theorem dL_law_2981 : decode cL_law 2981 = .ok (.iload 6, 2) := by decide +kernel
theorem dL_law_2983 : decode cL_law 2983 = .ok (.ifCond .ne 15, 3) := by decide +kernel
theorem dL_law_2986 : decode cL_law 2986 = .ok (.aload_n 3, 1) := by decide +kernel
theorem dL_law_2987 : decode cL_law 2987 = .ok (.iconst 0, 1) := by decide +kernel
theorem dL_law_2988 : decode cL_law 2988 = .ok (.laload, 1) := by decide +kernel
theorem dL_law_2989 : decode cL_law 2989 = .ok (.iload 7, 2) := by decide +kernel
theorem dL_law_2991 : decode cL_law 2991 = .ok (.i2l, 1) := by decide +kernel
theorem dL_law_2992 : decode cL_law 2992 = .ok (.lcmp, 1) := by decide +kernel
theorem dL_law_2993 : decode cL_law 2993 = .ok (.ifCond .eq 5, 3) := by decide +kernel
theorem dL_law_2996 : decode cL_law 2996 = .ok (.iconst 0, 1) := by decide +kernel
theorem dL_law_2997 : decode cL_law 2997 = .ok (.ireturn, 1) := by decide +kernel
theorem dL_law_2998 : decode cL_law 2998 = .ok (.goto 369, 3) := by decide +kernel
theorem dL_law_3001 : decode cL_law 3001 = .ok (.aload_n 1, 1) := by decide +kernel
theorem dL_law_3002 : decode cL_law 3002 = .ok (.aload_n 0, 1) := by decide +kernel
theorem dL_law_3003 : decode cL_law 3003 = .ok (.iload 5, 2) := by decide +kernel
theorem dL_law_3005 : decode cL_law 3005 = .ok (.iconst 1, 1) := by decide +kernel
theorem dL_law_3006 : decode cL_law 3006 = .ok (.iadd, 1) := by decide +kernel
theorem dL_law_3007 : decode cL_law 3007 = .ok (.iaload, 1) := by decide +kernel
theorem dL_law_3008 : decode cL_law 3008 = .ok (.aload_n 0, 1) := by decide +kernel
theorem dL_law_3009 : decode cL_law 3009 = .ok (.iload 5, 2) := by decide +kernel
theorem dL_law_3011 : decode cL_law 3011 = .ok (.iconst 2, 1) := by decide +kernel
theorem dL_law_3012 : decode cL_law 3012 = .ok (.iadd, 1) := by decide +kernel
theorem dL_law_3013 : decode cL_law 3013 = .ok (.iaload, 1) := by decide +kernel
theorem dL_law_3014 : decode cL_law 3014 = .ok (.aload_n 0, 1) := by decide +kernel
theorem dL_law_3015 : decode cL_law 3015 = .ok (.iload 5, 2) := by decide +kernel
theorem dL_law_3017 : decode cL_law 3017 = .ok (.iconst 3, 1) := by decide +kernel
theorem dL_law_3018 : decode cL_law 3018 = .ok (.iadd, 1) := by decide +kernel
theorem dL_law_3019 : decode cL_law 3019 = .ok (.iaload, 1) := by decide +kernel
theorem dL_law_3020 : decode cL_law 3020 = .ok (.aload_n 3, 1) := by decide +kernel
theorem dL_law_3021 : decode cL_law 3021 = .ok (.invokestatic 287, 3) := by decide +kernel
theorem dL_law_3024 : decode cL_law 3024 = .ok (.istore 6, 2) := by decide +kernel
theorem dL_law_3026 : decode cL_law 3026 = .ok (.aload_n 2, 1) := by decide +kernel
theorem dL_law_3027 : decode cL_law 3027 = .ok (.aload_n 0, 1) := by decide +kernel
theorem dL_law_3028 : decode cL_law 3028 = .ok (.iload 5, 2) := by decide +kernel
theorem dL_law_3030 : decode cL_law 3030 = .ok (.iconst 1, 1) := by decide +kernel
theorem dL_law_3031 : decode cL_law 3031 = .ok (.iadd, 1) := by decide +kernel
theorem dL_law_3032 : decode cL_law 3032 = .ok (.iaload, 1) := by decide +kernel
theorem dL_law_3033 : decode cL_law 3033 = .ok (.aload_n 0, 1) := by decide +kernel
theorem dL_law_3034 : decode cL_law 3034 = .ok (.iload 5, 2) := by decide +kernel
theorem dL_law_3036 : decode cL_law 3036 = .ok (.iconst 2, 1) := by decide +kernel
theorem dL_law_3037 : decode cL_law 3037 = .ok (.iadd, 1) := by decide +kernel
theorem dL_law_3038 : decode cL_law 3038 = .ok (.iaload, 1) := by decide +kernel
theorem dL_law_3039 : decode cL_law 3039 = .ok (.aload_n 0, 1) := by decide +kernel
theorem dL_law_3040 : decode cL_law 3040 = .ok (.iload 5, 2) := by decide +kernel
theorem dL_law_3042 : decode cL_law 3042 = .ok (.iconst 3, 1) := by decide +kernel
theorem dL_law_3043 : decode cL_law 3043 = .ok (.iadd, 1) := by decide +kernel
theorem dL_law_3044 : decode cL_law 3044 = .ok (.iaload, 1) := by decide +kernel
theorem dL_law_3045 : decode cL_law 3045 = .ok (.invokevirtual 289, 3) := by decide +kernel
theorem dL_law_3048 : decode cL_law 3048 = .ok (.istore 7, 2) := by decide +kernel
theorem dL_law_3050 : decode cL_law 3050 = .ok (.aload_n 2, 1) := by decide +kernel
theorem dL_law_3051 : decode cL_law 3051 = .ok (.invokevirtual 167, 3) := by decide +kernel
theorem dL_law_3054 : decode cL_law 3054 = .ok (.iload 6, 2) := by decide +kernel
theorem dL_law_3056 : decode cL_law 3056 = .ok (.if_icmp .eq 5, 3) := by decide +kernel
theorem dL_law_3059 : decode cL_law 3059 = .ok (.iconst 0, 1) := by decide +kernel
theorem dL_law_3060 : decode cL_law 3060 = .ok (.ireturn, 1) := by decide +kernel
theorem dL_law_3061 : decode cL_law 3061 = .ok (.iload 6, 2) := by decide +kernel
theorem dL_law_3063 : decode cL_law 3063 = .ok (.ifCond .ne 15, 3) := by decide +kernel
theorem dL_law_3066 : decode cL_law 3066 = .ok (.aload_n 3, 1) := by decide +kernel
theorem dL_law_3067 : decode cL_law 3067 = .ok (.iconst 0, 1) := by decide +kernel
theorem dL_law_3068 : decode cL_law 3068 = .ok (.laload, 1) := by decide +kernel
theorem dL_law_3069 : decode cL_law 3069 = .ok (.iload 7, 2) := by decide +kernel
theorem dL_law_3071 : decode cL_law 3071 = .ok (.i2l, 1) := by decide +kernel
theorem dL_law_3072 : decode cL_law 3072 = .ok (.lcmp, 1) := by decide +kernel
theorem dL_law_3073 : decode cL_law 3073 = .ok (.ifCond .eq 5, 3) := by decide +kernel
theorem dL_law_3076 : decode cL_law 3076 = .ok (.iconst 0, 1) := by decide +kernel
theorem dL_law_3077 : decode cL_law 3077 = .ok (.ireturn, 1) := by decide +kernel
theorem dL_law_3078 : decode cL_law 3078 = .ok (.goto 289, 3) := by decide +kernel
theorem dL_law_3081 : decode cL_law 3081 = .ok (.aload_n 1, 1) := by decide +kernel
theorem dL_law_3082 : decode cL_law 3082 = .ok (.aload_n 0, 1) := by decide +kernel
theorem dL_law_3083 : decode cL_law 3083 = .ok (.iload 5, 2) := by decide +kernel
theorem dL_law_3085 : decode cL_law 3085 = .ok (.iconst 1, 1) := by decide +kernel
theorem dL_law_3086 : decode cL_law 3086 = .ok (.iadd, 1) := by decide +kernel
theorem dL_law_3087 : decode cL_law 3087 = .ok (.iaload, 1) := by decide +kernel
theorem dL_law_3088 : decode cL_law 3088 = .ok (.aload_n 3, 1) := by decide +kernel
theorem dL_law_3089 : decode cL_law 3089 = .ok (.invokestatic 290, 3) := by decide +kernel
theorem dL_law_3092 : decode cL_law 3092 = .ok (.istore 6, 2) := by decide +kernel
theorem dL_law_3094 : decode cL_law 3094 = .ok (.aload_n 2, 1) := by decide +kernel
theorem dL_law_3095 : decode cL_law 3095 = .ok (.aload_n 0, 1) := by decide +kernel
theorem dL_law_3096 : decode cL_law 3096 = .ok (.iload 5, 2) := by decide +kernel
theorem dL_law_3098 : decode cL_law 3098 = .ok (.iconst 1, 1) := by decide +kernel
theorem dL_law_3099 : decode cL_law 3099 = .ok (.iadd, 1) := by decide +kernel
theorem dL_law_3100 : decode cL_law 3100 = .ok (.iaload, 1) := by decide +kernel
theorem dL_law_3101 : decode cL_law 3101 = .ok (.invokevirtual 292, 3) := by decide +kernel
theorem dL_law_3104 : decode cL_law 3104 = .ok (.istore 7, 2) := by decide +kernel
theorem dL_law_3106 : decode cL_law 3106 = .ok (.aload_n 2, 1) := by decide +kernel
theorem dL_law_3107 : decode cL_law 3107 = .ok (.invokevirtual 167, 3) := by decide +kernel
theorem dL_law_3110 : decode cL_law 3110 = .ok (.iload 6, 2) := by decide +kernel
theorem dL_law_3112 : decode cL_law 3112 = .ok (.if_icmp .eq 5, 3) := by decide +kernel
theorem dL_law_3115 : decode cL_law 3115 = .ok (.iconst 0, 1) := by decide +kernel
theorem dL_law_3116 : decode cL_law 3116 = .ok (.ireturn, 1) := by decide +kernel
theorem dL_law_3117 : decode cL_law 3117 = .ok (.iload 6, 2) := by decide +kernel
theorem dL_law_3119 : decode cL_law 3119 = .ok (.ifCond .ne 22, 3) := by decide +kernel
theorem dL_law_3122 : decode cL_law 3122 = .ok (.aload_n 3, 1) := by decide +kernel
theorem dL_law_3123 : decode cL_law 3123 = .ok (.iconst 0, 1) := by decide +kernel
theorem dL_law_3124 : decode cL_law 3124 = .ok (.laload, 1) := by decide +kernel
theorem dL_law_3125 : decode cL_law 3125 = .ok (.iload 7, 2) := by decide +kernel
theorem dL_law_3127 : decode cL_law 3127 = .ok (.ifCond .eq 7, 3) := by decide +kernel
theorem dL_law_3130 : decode cL_law 3130 = .ok (.lconst 1, 1) := by decide +kernel
theorem dL_law_3131 : decode cL_law 3131 = .ok (.goto 4, 3) := by decide +kernel
theorem dL_law_3134 : decode cL_law 3134 = .ok (.lconst 0, 1) := by decide +kernel
theorem dL_law_3135 : decode cL_law 3135 = .ok (.lcmp, 1) := by decide +kernel
theorem dL_law_3136 : decode cL_law 3136 = .ok (.ifCond .eq 5, 3) := by decide +kernel
theorem dL_law_3139 : decode cL_law 3139 = .ok (.iconst 0, 1) := by decide +kernel
theorem dL_law_3140 : decode cL_law 3140 = .ok (.ireturn, 1) := by decide +kernel
theorem dL_law_3141 : decode cL_law 3141 = .ok (.goto 226, 3) := by decide +kernel
theorem dL_law_3144 : decode cL_law 3144 = .ok (.aload_n 1, 1) := by decide +kernel
theorem dL_law_3145 : decode cL_law 3145 = .ok (.aload_n 0, 1) := by decide +kernel
theorem dL_law_3146 : decode cL_law 3146 = .ok (.iload 5, 2) := by decide +kernel
theorem dL_law_3148 : decode cL_law 3148 = .ok (.iconst 1, 1) := by decide +kernel
theorem dL_law_3149 : decode cL_law 3149 = .ok (.iadd, 1) := by decide +kernel
theorem dL_law_3150 : decode cL_law 3150 = .ok (.iaload, 1) := by decide +kernel
theorem dL_law_3151 : decode cL_law 3151 = .ok (.aload_n 3, 1) := by decide +kernel
theorem dL_law_3152 : decode cL_law 3152 = .ok (.invokestatic 293, 3) := by decide +kernel
theorem dL_law_3155 : decode cL_law 3155 = .ok (.istore 6, 2) := by decide +kernel
theorem dL_law_3157 : decode cL_law 3157 = .ok (.aload_n 2, 1) := by decide +kernel
theorem dL_law_3158 : decode cL_law 3158 = .ok (.aload_n 0, 1) := by decide +kernel
theorem dL_law_3159 : decode cL_law 3159 = .ok (.iload 5, 2) := by decide +kernel
theorem dL_law_3161 : decode cL_law 3161 = .ok (.iconst 1, 1) := by decide +kernel
theorem dL_law_3162 : decode cL_law 3162 = .ok (.iadd, 1) := by decide +kernel
theorem dL_law_3163 : decode cL_law 3163 = .ok (.iaload, 1) := by decide +kernel
theorem dL_law_3164 : decode cL_law 3164 = .ok (.invokevirtual 295, 3) := by decide +kernel
theorem dL_law_3167 : decode cL_law 3167 = .ok (.istore 7, 2) := by decide +kernel
theorem dL_law_3169 : decode cL_law 3169 = .ok (.aload_n 2, 1) := by decide +kernel
theorem dL_law_3170 : decode cL_law 3170 = .ok (.invokevirtual 167, 3) := by decide +kernel
theorem dL_law_3173 : decode cL_law 3173 = .ok (.iload 6, 2) := by decide +kernel
theorem dL_law_3175 : decode cL_law 3175 = .ok (.if_icmp .eq 5, 3) := by decide +kernel
theorem dL_law_3178 : decode cL_law 3178 = .ok (.iconst 0, 1) := by decide +kernel
theorem dL_law_3179 : decode cL_law 3179 = .ok (.ireturn, 1) := by decide +kernel
theorem dL_law_3180 : decode cL_law 3180 = .ok (.iload 6, 2) := by decide +kernel
theorem dL_law_3182 : decode cL_law 3182 = .ok (.ifCond .ne 15, 3) := by decide +kernel
theorem dL_law_3185 : decode cL_law 3185 = .ok (.aload_n 3, 1) := by decide +kernel
theorem dL_law_3186 : decode cL_law 3186 = .ok (.iconst 0, 1) := by decide +kernel
theorem dL_law_3187 : decode cL_law 3187 = .ok (.laload, 1) := by decide +kernel
theorem dL_law_3188 : decode cL_law 3188 = .ok (.iload 7, 2) := by decide +kernel
theorem dL_law_3190 : decode cL_law 3190 = .ok (.i2l, 1) := by decide +kernel
theorem dL_law_3191 : decode cL_law 3191 = .ok (.lcmp, 1) := by decide +kernel
theorem dL_law_3192 : decode cL_law 3192 = .ok (.ifCond .eq 5, 3) := by decide +kernel
theorem dL_law_3195 : decode cL_law 3195 = .ok (.iconst 0, 1) := by decide +kernel
theorem dL_law_3196 : decode cL_law 3196 = .ok (.ireturn, 1) := by decide +kernel
theorem dL_law_3197 : decode cL_law 3197 = .ok (.goto 170, 3) := by decide +kernel
theorem dL_law_3200 : decode cL_law 3200 = .ok (.aload_n 1, 1) := by decide +kernel
theorem dL_law_3201 : decode cL_law 3201 = .ok (.aload_n 0, 1) := by decide +kernel
theorem dL_law_3202 : decode cL_law 3202 = .ok (.iload 5, 2) := by decide +kernel
theorem dL_law_3204 : decode cL_law 3204 = .ok (.iconst 1, 1) := by decide +kernel
theorem dL_law_3205 : decode cL_law 3205 = .ok (.iadd, 1) := by decide +kernel
theorem dL_law_3206 : decode cL_law 3206 = .ok (.iaload, 1) := by decide +kernel
theorem dL_law_3207 : decode cL_law 3207 = .ok (.aload 4, 2) := by decide +kernel
theorem dL_law_3209 : decode cL_law 3209 = .ok (.invokestatic 296, 3) := by decide +kernel
theorem dL_law_3212 : decode cL_law 3212 = .ok (.istore 6, 2) := by decide +kernel
theorem dL_law_3214 : decode cL_law 3214 = .ok (.aload_n 2, 1) := by decide +kernel
theorem dL_law_3215 : decode cL_law 3215 = .ok (.aload_n 0, 1) := by decide +kernel
theorem dL_law_3216 : decode cL_law 3216 = .ok (.iload 5, 2) := by decide +kernel
theorem dL_law_3218 : decode cL_law 3218 = .ok (.iconst 1, 1) := by decide +kernel
theorem dL_law_3219 : decode cL_law 3219 = .ok (.iadd, 1) := by decide +kernel
theorem dL_law_3220 : decode cL_law 3220 = .ok (.iaload, 1) := by decide +kernel
theorem dL_law_3221 : decode cL_law 3221 = .ok (.invokevirtual 299, 3) := by decide +kernel
theorem dL_law_3224 : decode cL_law 3224 = .ok (.dstore 7, 2) := by decide +kernel
theorem dL_law_3226 : decode cL_law 3226 = .ok (.aload_n 2, 1) := by decide +kernel
theorem dL_law_3227 : decode cL_law 3227 = .ok (.invokevirtual 167, 3) := by decide +kernel
theorem dL_law_3230 : decode cL_law 3230 = .ok (.iload 6, 2) := by decide +kernel
theorem dL_law_3232 : decode cL_law 3232 = .ok (.if_icmp .eq 5, 3) := by decide +kernel
theorem dL_law_3235 : decode cL_law 3235 = .ok (.iconst 0, 1) := by decide +kernel
theorem dL_law_3236 : decode cL_law 3236 = .ok (.ireturn, 1) := by decide +kernel
theorem dL_law_3237 : decode cL_law 3237 = .ok (.iload 6, 2) := by decide +kernel
theorem dL_law_3239 : decode cL_law 3239 = .ok (.ifCond .ne 35, 3) := by decide +kernel
theorem dL_law_3242 : decode cL_law 3242 = .ok (.aload 4, 2) := by decide +kernel
theorem dL_law_3244 : decode cL_law 3244 = .ok (.iconst 0, 1) := by decide +kernel
theorem dL_law_3245 : decode cL_law 3245 = .ok (.daload, 1) := by decide +kernel
theorem dL_law_3246 : decode cL_law 3246 = .ok (.dload 7, 2) := by decide +kernel
theorem dL_law_3248 : decode cL_law 3248 = .ok (.dcmp .l, 1) := by decide +kernel
theorem dL_law_3249 : decode cL_law 3249 = .ok (.ifCond .eq 25, 3) := by decide +kernel
theorem dL_law_3252 : decode cL_law 3252 = .ok (.aload 4, 2) := by decide +kernel
theorem dL_law_3254 : decode cL_law 3254 = .ok (.iconst 0, 1) := by decide +kernel
theorem dL_law_3255 : decode cL_law 3255 = .ok (.daload, 1) := by decide +kernel
theorem dL_law_3256 : decode cL_law 3256 = .ok (.aload 4, 2) := by decide +kernel
theorem dL_law_3258 : decode cL_law 3258 = .ok (.iconst 0, 1) := by decide +kernel
theorem dL_law_3259 : decode cL_law 3259 = .ok (.daload, 1) := by decide +kernel
theorem dL_law_3260 : decode cL_law 3260 = .ok (.dcmp .l, 1) := by decide +kernel
theorem dL_law_3261 : decode cL_law 3261 = .ok (.ifCond .eq 11, 3) := by decide +kernel
theorem dL_law_3264 : decode cL_law 3264 = .ok (.dload 7, 2) := by decide +kernel
theorem dL_law_3266 : decode cL_law 3266 = .ok (.dload 7, 2) := by decide +kernel
theorem dL_law_3268 : decode cL_law 3268 = .ok (.dcmp .l, 1) := by decide +kernel
theorem dL_law_3269 : decode cL_law 3269 = .ok (.ifCond .ne 5, 3) := by decide +kernel
theorem dL_law_3272 : decode cL_law 3272 = .ok (.iconst 0, 1) := by decide +kernel
theorem dL_law_3273 : decode cL_law 3273 = .ok (.ireturn, 1) := by decide +kernel
theorem dL_law_3274 : decode cL_law 3274 = .ok (.goto 93, 3) := by decide +kernel
theorem dL_law_3277 : decode cL_law 3277 = .ok (.aload_n 1, 1) := by decide +kernel
theorem dL_law_3278 : decode cL_law 3278 = .ok (.aload_n 0, 1) := by decide +kernel
theorem dL_law_3279 : decode cL_law 3279 = .ok (.iload 5, 2) := by decide +kernel
theorem dL_law_3281 : decode cL_law 3281 = .ok (.iconst 1, 1) := by decide +kernel
theorem dL_law_3282 : decode cL_law 3282 = .ok (.iadd, 1) := by decide +kernel
theorem dL_law_3283 : decode cL_law 3283 = .ok (.iaload, 1) := by decide +kernel
theorem dL_law_3284 : decode cL_law 3284 = .ok (.aload_n 0, 1) := by decide +kernel
theorem dL_law_3285 : decode cL_law 3285 = .ok (.iload 5, 2) := by decide +kernel
theorem dL_law_3287 : decode cL_law 3287 = .ok (.iconst 2, 1) := by decide +kernel
theorem dL_law_3288 : decode cL_law 3288 = .ok (.iadd, 1) := by decide +kernel
theorem dL_law_3289 : decode cL_law 3289 = .ok (.iaload, 1) := by decide +kernel
theorem dL_law_3290 : decode cL_law 3290 = .ok (.aload 4, 2) := by decide +kernel
theorem dL_law_3292 : decode cL_law 3292 = .ok (.invokestatic 300, 3) := by decide +kernel
theorem dL_law_3295 : decode cL_law 3295 = .ok (.istore 6, 2) := by decide +kernel
theorem dL_law_3297 : decode cL_law 3297 = .ok (.aload_n 2, 1) := by decide +kernel
theorem dL_law_3298 : decode cL_law 3298 = .ok (.aload_n 0, 1) := by decide +kernel
theorem dL_law_3299 : decode cL_law 3299 = .ok (.iload 5, 2) := by decide +kernel
theorem dL_law_3301 : decode cL_law 3301 = .ok (.iconst 1, 1) := by decide +kernel
theorem dL_law_3302 : decode cL_law 3302 = .ok (.iadd, 1) := by decide +kernel
theorem dL_law_3303 : decode cL_law 3303 = .ok (.iaload, 1) := by decide +kernel
theorem dL_law_3304 : decode cL_law 3304 = .ok (.aload_n 0, 1) := by decide +kernel
theorem dL_law_3305 : decode cL_law 3305 = .ok (.iload 5, 2) := by decide +kernel
theorem dL_law_3307 : decode cL_law 3307 = .ok (.iconst 2, 1) := by decide +kernel
theorem dL_law_3308 : decode cL_law 3308 = .ok (.iadd, 1) := by decide +kernel
theorem dL_law_3309 : decode cL_law 3309 = .ok (.iaload, 1) := by decide +kernel
theorem dL_law_3310 : decode cL_law 3310 = .ok (.invokevirtual 303, 3) := by decide +kernel
theorem dL_law_3313 : decode cL_law 3313 = .ok (.fstore 7, 2) := by decide +kernel
theorem dL_law_3315 : decode cL_law 3315 = .ok (.aload_n 2, 1) := by decide +kernel
theorem dL_law_3316 : decode cL_law 3316 = .ok (.invokevirtual 167, 3) := by decide +kernel
theorem dL_law_3319 : decode cL_law 3319 = .ok (.iload 6, 2) := by decide +kernel
theorem dL_law_3321 : decode cL_law 3321 = .ok (.if_icmp .eq 5, 3) := by decide +kernel
theorem dL_law_3324 : decode cL_law 3324 = .ok (.iconst 0, 1) := by decide +kernel
theorem dL_law_3325 : decode cL_law 3325 = .ok (.ireturn, 1) := by decide +kernel
theorem dL_law_3326 : decode cL_law 3326 = .ok (.iload 6, 2) := by decide +kernel
theorem dL_law_3328 : decode cL_law 3328 = .ok (.ifCond .ne 36, 3) := by decide +kernel
theorem dL_law_3331 : decode cL_law 3331 = .ok (.aload 4, 2) := by decide +kernel
theorem dL_law_3333 : decode cL_law 3333 = .ok (.iconst 0, 1) := by decide +kernel
theorem dL_law_3334 : decode cL_law 3334 = .ok (.daload, 1) := by decide +kernel
theorem dL_law_3335 : decode cL_law 3335 = .ok (.fload 7, 2) := by decide +kernel
theorem dL_law_3337 : decode cL_law 3337 = .ok (.f2d, 1) := by decide +kernel
theorem dL_law_3338 : decode cL_law 3338 = .ok (.dcmp .l, 1) := by decide +kernel
theorem dL_law_3339 : decode cL_law 3339 = .ok (.ifCond .eq 25, 3) := by decide +kernel
theorem dL_law_3342 : decode cL_law 3342 = .ok (.aload 4, 2) := by decide +kernel
theorem dL_law_3344 : decode cL_law 3344 = .ok (.iconst 0, 1) := by decide +kernel
theorem dL_law_3345 : decode cL_law 3345 = .ok (.daload, 1) := by decide +kernel
theorem dL_law_3346 : decode cL_law 3346 = .ok (.aload 4, 2) := by decide +kernel
theorem dL_law_3348 : decode cL_law 3348 = .ok (.iconst 0, 1) := by decide +kernel
theorem dL_law_3349 : decode cL_law 3349 = .ok (.daload, 1) := by decide +kernel
theorem dL_law_3350 : decode cL_law 3350 = .ok (.dcmp .l, 1) := by decide +kernel
theorem dL_law_3351 : decode cL_law 3351 = .ok (.ifCond .eq 11, 3) := by decide +kernel
theorem dL_law_3354 : decode cL_law 3354 = .ok (.fload 7, 2) := by decide +kernel
theorem dL_law_3356 : decode cL_law 3356 = .ok (.fload 7, 2) := by decide +kernel
theorem dL_law_3358 : decode cL_law 3358 = .ok (.fcmp .l, 1) := by decide +kernel
theorem dL_law_3359 : decode cL_law 3359 = .ok (.ifCond .ne 5, 3) := by decide +kernel
theorem dL_law_3362 : decode cL_law 3362 = .ok (.iconst 0, 1) := by decide +kernel
theorem dL_law_3363 : decode cL_law 3363 = .ok (.ireturn, 1) := by decide +kernel
theorem dL_law_3364 : decode cL_law 3364 = .ok (.goto 3, 3) := by decide +kernel
theorem dL_law_3367 : decode cL_law 3367 = .ok (.iinc 5 5, 3) := by decide +kernel
theorem dL_law_3370 : decode cL_law 3370 = .ok (.goto (-3342), 3) := by decide +kernel
theorem dL_law_3373 : decode cL_law 3373 = .ok (.iconst 1, 1) := by decide +kernel
theorem dL_law_3374 : decode cL_law 3374 = .ok (.ireturn, 1) := by decide +kernel
