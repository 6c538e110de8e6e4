-- behind:
theorem dL_law_2262 : decode cL_law 2262 = .ok (.invokevirtual 310, 3) := by decide +kernel
theorem dL_law_2265 : decode cL_law 2265 = .ok (.istore 6, 2) := by decide +kernel
theorem dL_law_2267 : decode cL_law 2267 = .ok (.aload_n 2, 1) := by decide +kernel
theorem dL_law_2268 : decode cL_law 2268 = .ok (.invokevirtual 175, 3) := by decide +kernel
theorem dL_law_2271 : decode cL_law 2271 = .ok (.iload 5, 2) := by decide +kernel
theorem dL_law_2273 : decode cL_law 2273 = .ok (.if_icmp .eq 5, 3) := by decide +kernel
theorem dL_law_2276 : decode cL_law 2276 = .ok (.iconst 0, 1) := by decide +kernel
theorem dL_law_2277 : decode cL_law 2277 = .ok (.ireturn, 1) := by decide +kernel
theorem dL_law_2278 : decode cL_law 2278 = .ok (.iload 5, 2) := by decide +kernel
theorem dL_law_2280 : decode cL_law 2280 = .ok (.ifCond .ne 15, 3) := by decide +kernel
theorem dL_law_2283 : decode cL_law 2283 = .ok (.aload_n 3, 1) := by decide +kernel
theorem dL_law_2284 : decode cL_law 2284 = .ok (.iconst 0, 1) := by decide +kernel
theorem dL_law_2285 : decode cL_law 2285 = .ok (.laload, 1) := by decide +kernel
theorem dL_law_2286 : decode cL_law 2286 = .ok (.iload 6, 2) := by decide +kernel
theorem dL_law_2288 : decode cL_law 2288 = .ok (.i2l, 1) := by decide +kernel
theorem dL_law_2289 : decode cL_law 2289 = .ok (.lcmp, 1) := by decide +kernel
theorem dL_law_2290 : decode cL_law 2290 = .ok (.ifCond .eq 5, 3) := by decide +kernel
theorem dL_law_2293 : decode cL_law 2293 = .ok (.iconst 0, 1) := by decide +kernel
theorem dL_law_2294 : decode cL_law 2294 = .ok (.ireturn, 1) := by decide +kernel
theorem dL_law_2295 : decode cL_law 2295 = .ok (.goto 1163, 3) := by decide +kernel
theorem dL_law_2298 : decode cL_law 2298 = .ok (.aload_n 1, 1) := by decide +kernel
theorem dL_law_2299 : decode cL_law 2299 = .ok (.aload_n 0, 1) := by decide +kernel
theorem dL_law_2300 : decode cL_law 2300 = .ok (.iload 4, 2) := by decide +kernel
theorem dL_law_2302 : decode cL_law 2302 = .ok (.iconst 1, 1) := by decide +kernel
theorem dL_law_2303 : decode cL_law 2303 = .ok (.iadd, 1) := by decide +kernel
theorem dL_law_2304 : decode cL_law 2304 = .ok (.iaload, 1) := by decide +kernel
theorem dL_law_2305 : decode cL_law 2305 = .ok (.aload_n 3, 1) := by decide +kernel
theorem dL_law_2306 : decode cL_law 2306 = .ok (.invokestatic 311, 3) := by decide +kernel
theorem dL_law_2309 : decode cL_law 2309 = .ok (.istore 5, 2) := by decide +kernel
theorem dL_law_2311 : decode cL_law 2311 = .ok (.aload_n 2, 1) := by decide +kernel
theorem dL_law_2312 : decode cL_law 2312 = .ok (.aload_n 0, 1) := by decide +kernel
theorem dL_law_2313 : decode cL_law 2313 = .ok (.iload 4, 2) := by decide +kernel
theorem dL_law_2315 : decode cL_law 2315 = .ok (.iconst 1, 1) := by decide +kernel
theorem dL_law_2316 : decode cL_law 2316 = .ok (.iadd, 1) := by decide +kernel
theorem dL_law_2317 : decode cL_law 2317 = .ok (.iaload, 1) := by decide +kernel
theorem dL_law_2318 : decode cL_law 2318 = .ok (.invokevirtual 313, 3) := by decide +kernel
theorem dL_law_2321 : decode cL_law 2321 = .ok (.istore 6, 2) := by decide +kernel
theorem dL_law_2323 : decode cL_law 2323 = .ok (.aload_n 2, 1) := by decide +kernel
theorem dL_law_2324 : decode cL_law 2324 = .ok (.invokevirtual 175, 3) := by decide +kernel
theorem dL_law_2327 : decode cL_law 2327 = .ok (.iload 5, 2) := by decide +kernel
theorem dL_law_2329 : decode cL_law 2329 = .ok (.if_icmp .eq 5, 3) := by decide +kernel
theorem dL_law_2332 : decode cL_law 2332 = .ok (.iconst 0, 1) := by decide +kernel
theorem dL_law_2333 : decode cL_law 2333 = .ok (.ireturn, 1) := by decide +kernel
theorem dL_law_2334 : decode cL_law 2334 = .ok (.iload 5, 2) := by decide +kernel
theorem dL_law_2336 : decode cL_law 2336 = .ok (.ifCond .ne 15, 3) := by decide +kernel
theorem dL_law_2339 : decode cL_law 2339 = .ok (.aload_n 3, 1) := by decide +kernel
theorem dL_law_2340 : decode cL_law 2340 = .ok (.iconst 0, 1) := by decide +kernel
theorem dL_law_2341 : decode cL_law 2341 = .ok (.laload, 1) := by decide +kernel
theorem dL_law_2342 : decode cL_law 2342 = .ok (.iload 6, 2) := by decide +kernel
theorem dL_law_2344 : decode cL_law 2344 = .ok (.i2l, 1) := by decide +kernel
theorem dL_law_2345 : decode cL_law 2345 = .ok (.lcmp, 1) := by decide +kernel
theorem dL_law_2346 : decode cL_law 2346 = .ok (.ifCond .eq 5, 3) := by decide +kernel
theorem dL_law_2349 : decode cL_law 2349 = .ok (.iconst 0, 1) := by decide +kernel
theorem dL_law_2350 : decode cL_law 2350 = .ok (.ireturn, 1) := by decide +kernel
theorem dL_law_2351 : decode cL_law 2351 = .ok (.goto 1107, 3) := by decide +kernel
theorem dL_law_2354 : decode cL_law 2354 = .ok (.aload_n 1, 1) := by decide +kernel
theorem dL_law_2355 : decode cL_law 2355 = .ok (.aload_n 0, 1) := by decide +kernel
theorem dL_law_2356 : decode cL_law 2356 = .ok (.iload 4, 2) := by decide +kernel
theorem dL_law_2358 : decode cL_law 2358 = .ok (.iconst 1, 1) := by decide +kernel
theorem dL_law_2359 : decode cL_law 2359 = .ok (.iadd, 1) := by decide +kernel
theorem dL_law_2360 : decode cL_law 2360 = .ok (.iaload, 1) := by decide +kernel
theorem dL_law_2361 : decode cL_law 2361 = .ok (.aload_n 3, 1) := by decide +kernel
theorem dL_law_2362 : decode cL_law 2362 = .ok (.invokestatic 314, 3) := by decide +kernel
theorem dL_law_2365 : decode cL_law 2365 = .ok (.istore 5, 2) := by decide +kernel
theorem dL_law_2367 : decode cL_law 2367 = .ok (.aload_n 2, 1) := by decide +kernel
theorem dL_law_2368 : decode cL_law 2368 = .ok (.aload_n 0, 1) := by decide +kernel
theorem dL_law_2369 : decode cL_law 2369 = .ok (.iload 4, 2) := by decide +kernel
theorem dL_law_2371 : decode cL_law 2371 = .ok (.iconst 1, 1) := by decide +kernel
theorem dL_law_2372 : decode cL_law 2372 = .ok (.iadd, 1) := by decide +kernel
theorem dL_law_2373 : decode cL_law 2373 = .ok (.iaload, 1) := by decide +kernel
theorem dL_law_2374 : decode cL_law 2374 = .ok (.invokevirtual 316, 3) := by decide +kernel
theorem dL_law_2377 : decode cL_law 2377 = .ok (.istore 6, 2) := by decide +kernel
theorem dL_law_2379 : decode cL_law 2379 = .ok (.aload_n 2, 1) := by decide +kernel
theorem dL_law_2380 : decode cL_law 2380 = .ok (.invokevirtual 175, 3) := by decide +kernel
theorem dL_law_2383 : decode cL_law 2383 = .ok (.iload 5, 2) := by decide +kernel
theorem dL_law_2385 : decode cL_law 2385 = .ok (.if_icmp .eq 5, 3) := by decide +kernel
theorem dL_law_2388 : decode cL_law 2388 = .ok (.iconst 0, 1) := by decide +kernel
theorem dL_law_2389 : decode cL_law 2389 = .ok (.ireturn, 1) := by decide +kernel
theorem dL_law_2390 : decode cL_law 2390 = .ok (.iload 5, 2) := by decide +kernel
theorem dL_law_2392 : decode cL_law 2392 = .ok (.ifCond .ne 15, 3) := by decide +kernel
theorem dL_law_2395 : decode cL_law 2395 = .ok (.aload_n 3, 1) := by decide +kernel
theorem dL_law_2396 : decode cL_law 2396 = .ok (.iconst 0, 1) := by decide +kernel
theorem dL_law_2397 : decode cL_law 2397 = .ok (.laload, 1) := by decide +kernel
theorem dL_law_2398 : decode cL_law 2398 = .ok (.iload 6, 2) := by decide +kernel
theorem dL_law_2400 : decode cL_law 2400 = .ok (.i2l, 1) := by decide +kernel
theorem dL_law_2401 : decode cL_law 2401 = .ok (.lcmp, 1) := by decide +kernel
theorem dL_law_2402 : decode cL_law 2402 = .ok (.ifCond .eq 5, 3) := by decide +kernel
theorem dL_law_2405 : decode cL_law 2405 = .ok (.iconst 0, 1) := by decide +kernel
theorem dL_law_2406 : decode cL_law 2406 = .ok (.ireturn, 1) := by decide +kernel
theorem dL_law_2407 : decode cL_law 2407 = .ok (.goto 1051, 3) := by decide +kernel
theorem dL_law_2410 : decode cL_law 2410 = .ok (.aload_n 1, 1) := by decide +kernel
theorem dL_law_2411 : decode cL_law 2411 = .ok (.invokevirtual 317, 3) := by decide +kernel
theorem dL_law_2414 : decode cL_law 2414 = .ok (.aload_n 2, 1) := by decide +kernel
theorem dL_law_2415 : decode cL_law 2415 = .ok (.invokevirtual 320, 3) := by decide +kernel
theorem dL_law_2418 : decode cL_law 2418 = .ok (.if_icmp .eq 1040, 3) := by decide +kernel
theorem dL_law_2421 : decode cL_law 2421 = .ok (.iconst 0, 1) := by decide +kernel
theorem dL_law_2422 : decode cL_law 2422 = .ok (.ireturn, 1) := by decide +kernel
theorem dL_law_2423 : decode cL_law 2423 = .ok (.aload_n 1, 1) := by decide +kernel
theorem dL_law_2424 : decode cL_law 2424 = .ok (.invokevirtual 321, 3) := by decide +kernel
theorem dL_law_2427 : decode cL_law 2427 = .ok (.aload_n 2, 1) := by decide +kernel
theorem dL_law_2428 : decode cL_law 2428 = .ok (.invokevirtual 324, 3) := by decide +kernel
theorem dL_law_2431 : decode cL_law 2431 = .ok (.if_icmp .eq 1027, 3) := by decide +kernel
theorem dL_law_2434 : decode cL_law 2434 = .ok (.iconst 0, 1) := by decide +kernel
theorem dL_law_2435 : decode cL_law 2435 = .ok (.ireturn, 1) := by decide +kernel
theorem dL_law_2436 : decode cL_law 2436 = .ok (.aload_n 1, 1) := by decide +kernel
theorem dL_law_2437 : decode cL_law 2437 = .ok (.aload_n 0, 1) := by decide +kernel
theorem dL_law_2438 : decode cL_law 2438 = .ok (.iload 4, 2) := by decide +kernel
theorem dL_law_2440 : decode cL_law 2440 = .ok (.iconst 1, 1) := by decide +kernel
theorem dL_law_2441 : decode cL_law 2441 = .ok (.iadd, 1) := by decide +kernel
theorem dL_law_2442 : decode cL_law 2442 = .ok (.iaload, 1) := by decide +kernel
theorem dL_law_2443 : decode cL_law 2443 = .ok (.aload_n 3, 1) := by decide +kernel
theorem dL_law_2444 : decode cL_law 2444 = .ok (.invokestatic 325, 3) := by decide +kernel
theorem dL_law_2447 : decode cL_law 2447 = .ok (.istore 5, 2) := by decide +kernel
theorem dL_law_2449 : decode cL_law 2449 = .ok (.aload_n 2, 1) := by decide +kernel
theorem dL_law_2450 : decode cL_law 2450 = .ok (.aload_n 0, 1) := by decide +kernel
theorem dL_law_2451 : decode cL_law 2451 = .ok (.iload 4, 2) := by decide +kernel
theorem dL_law_2453 : decode cL_law 2453 = .ok (.iconst 1, 1) := by decide +kernel
theorem dL_law_2454 : decode cL_law 2454 = .ok (.iadd, 1) := by decide +kernel
theorem dL_law_2455 : decode cL_law 2455 = .ok (.iaload, 1) := by decide +kernel
theorem dL_law_2456 : decode cL_law 2456 = .ok (.invokevirtual 327, 3) := by decide +kernel
theorem dL_law_2459 : decode cL_law 2459 = .ok (.istore 6, 2) := by decide +kernel
theorem dL_law_2461 : decode cL_law 2461 = .ok (.aload_n 2, 1) := by decide +kernel
theorem dL_law_2462 : decode cL_law 2462 = .ok (.invokevirtual 175, 3) := by decide +kernel
theorem dL_law_2465 : decode cL_law 2465 = .ok (.iload 5, 2) := by decide +kernel
theorem dL_law_2467 : decode cL_law 2467 = .ok (.if_icmp .eq 5, 3) := by decide +kernel
theorem dL_law_2470 : decode cL_law 2470 = .ok (.iconst 0, 1) := by decide +kernel
theorem dL_law_2471 : decode cL_law 2471 = .ok (.ireturn, 1) := by decide +kernel
theorem dL_law_2472 : decode cL_law 2472 = .ok (.iload 5, 2) := by decide +kernel
theorem dL_law_2474 : decode cL_law 2474 = .ok (.ifCond .ne 15, 3) := by decide +kernel
theorem dL_law_2477 : decode cL_law 2477 = .ok (.aload_n 3, 1) := by decide +kernel
theorem dL_law_2478 : decode cL_law 2478 = .ok (.iconst 0, 1) := by decide +kernel
theorem dL_law_2479 : decode cL_law 2479 = .ok (.laload, 1) := by decide +kernel
theorem dL_law_2480 : decode cL_law 2480 = .ok (.iload 6, 2) := by decide +kernel
theorem dL_law_2482 : decode cL_law 2482 = .ok (.i2l, 1) := by decide +kernel
theorem dL_law_2483 : decode cL_law 2483 = .ok (.lcmp, 1) := by decide +kernel
theorem dL_law_2484 : decode cL_law 2484 = .ok (.ifCond .eq 5, 3) := by decide +kernel
theorem dL_law_2487 : decode cL_law 2487 = .ok (.iconst 0, 1) := by decide +kernel
theorem dL_law_2488 : decode cL_law 2488 = .ok (.ireturn, 1) := by decide +kernel
theorem dL_law_2489 : decode cL_law 2489 = .ok (.goto 969, 3) := by decide +kernel
theorem dL_law_2492 : decode cL_law 2492 = .ok (.aload_n 1, 1) := by decide +kernel
theorem dL_law_2493 : decode cL_law 2493 = .ok (.aload_n 0, 1) := by decide +kernel
theorem dL_law_2494 : decode cL_law 2494 = .ok (.iload 4, 2) := by decide +kernel
theorem dL_law_2496 : decode cL_law 2496 = .ok (.iconst 1, 1) := by decide +kernel
theorem dL_law_2497 : decode cL_law 2497 = .ok (.iadd, 1) := by decide +kernel
theorem dL_law_2498 : decode cL_law 2498 = .ok (.iaload, 1) := by decide +kernel
theorem dL_law_2499 : decode cL_law 2499 = .ok (.aload_n 3, 1) := by decide +kernel
theorem dL_law_2500 : decode cL_law 2500 = .ok (.invokestatic 328, 3) := by decide +kernel
theorem dL_law_2503 : decode cL_law 2503 = .ok (.istore 5, 2) := by decide +kernel
theorem dL_law_2505 : decode cL_law 2505 = .ok (.aload_n 2, 1) := by decide +kernel
theorem dL_law_2506 : decode cL_law 2506 = .ok (.aload_n 0, 1) := by decide +kernel
theorem dL_law_2507 : decode cL_law 2507 = .ok (.iload 4, 2) := by decide +kernel
theorem dL_law_2509 : decode cL_law 2509 = .ok (.iconst 1, 1) := by decide +kernel
theorem dL_law_2510 : decode cL_law 2510 = .ok (.iadd, 1) := by decide +kernel
theorem dL_law_2511 : decode cL_law 2511 = .ok (.iaload, 1) := by decide +kernel
theorem dL_law_2512 : decode cL_law 2512 = .ok (.invokevirtual 330, 3) := by decide +kernel
theorem dL_law_2515 : decode cL_law 2515 = .ok (.istore 6, 2) := by decide +kernel
theorem dL_law_2517 : decode cL_law 2517 = .ok (.aload_n 2, 1) := by decide +kernel
theorem dL_law_2518 : decode cL_law 2518 = .ok (.invokevirtual 175, 3) := by decide +kernel
theorem dL_law_2521 : decode cL_law 2521 = .ok (.iload 5, 2) := by decide +kernel
theorem dL_law_2523 : decode cL_law 2523 = .ok (.if_icmp .eq 5, 3) := by decide +kernel
theorem dL_law_2526 : decode cL_law 2526 = .ok (.iconst 0, 1) := by decide +kernel
theorem dL_law_2527 : decode cL_law 2527 = .ok (.ireturn, 1) := by decide +kernel
theorem dL_law_2528 : decode cL_law 2528 = .ok (.iload 5, 2) := by decide +kernel
theorem dL_law_2530 : decode cL_law 2530 = .ok (.ifCond .ne 15, 3) := by decide +kernel
theorem dL_law_2533 : decode cL_law 2533 = .ok (.aload_n 3, 1) := by decide +kernel
theorem dL_law_2534 : decode cL_law 2534 = .ok (.iconst 0, 1) := by decide +kernel
theorem dL_law_2535 : decode cL_law 2535 = .ok (.laload, 1) := by decide +kernel
theorem dL_law_2536 : decode cL_law 2536 = .ok (.iload 6, 2) := by decide +kernel
theorem dL_law_2538 : decode cL_law 2538 = .ok (.i2l, 1) := by decide +kernel
theorem dL_law_2539 : decode cL_law 2539 = .ok (.lcmp, 1) := by decide +kernel
theorem dL_law_2540 : decode cL_law 2540 = .ok (.ifCond .eq 5, 3) := by decide +kernel
theorem dL_law_2543 : decode cL_law 2543 = .ok (.iconst 0, 1) := by decide +kernel
theorem dL_law_2544 : decode cL_law 2544 = .ok (.ireturn, 1) := by decide +kernel
theorem dL_law_2545 : decode cL_law 2545 = .ok (.goto 913, 3) := by decide +kernel
theorem dL_law_2548 : decode cL_law 2548 = .ok (.aload_n 1, 1) := by decide +kernel
theorem dL_law_2549 : decode cL_law 2549 = .ok (.aload_n 0, 1) := by decide +kernel
theorem dL_law_2550 : decode cL_law 2550 = .ok (.iload 4, 2) := by decide +kernel
theorem dL_law_2552 : decode cL_law 2552 = .ok (.iconst 1, 1) := by decide +kernel
theorem dL_law_2553 : decode cL_law 2553 = .ok (.iadd, 1) := by decide +kernel
theorem dL_law_2554 : decode cL_law 2554 = .ok (.iaload, 1) := by decide +kernel
theorem dL_law_2555 : decode cL_law 2555 = .ok (.aload_n 0, 1) := by decide +kernel
theorem dL_law_2556 : decode cL_law 2556 = .ok (.iload 4, 2) := by decide +kernel
theorem dL_law_2558 : decode cL_law 2558 = .ok (.iconst 2, 1) := by decide +kernel
theorem dL_law_2559 : decode cL_law 2559 = .ok (.iadd, 1) := by decide +kernel
theorem dL_law_2560 : decode cL_law 2560 = .ok (.iaload, 1) := by decide +kernel
theorem dL_law_2561 : decode cL_law 2561 = .ok (.aload_n 3, 1) := by decide +kernel
theorem dL_law_2562 : decode cL_law 2562 = .ok (.invokestatic 331, 3) := by decide +kernel
theorem dL_law_2565 : decode cL_law 2565 = .ok (.istore 5, 2) := by decide +kernel
theorem dL_law_2567 : decode cL_law 2567 = .ok (.aload_n 2, 1) := by decide +kernel
theorem dL_law_2568 : decode cL_law 2568 = .ok (.aload_n 0, 1) := by decide +kernel
theorem dL_law_2569 : decode cL_law 2569 = .ok (.iload 4, 2) := by decide +kernel
theorem dL_law_2571 : decode cL_law 2571 = .ok (.iconst 1, 1) := by decide +kernel
theorem dL_law_2572 : decode cL_law 2572 = .ok (.iadd, 1) := by decide +kernel
theorem dL_law_2573 : decode cL_law 2573 = .ok (.iaload, 1) := by decide +kernel
theorem dL_law_2574 : decode cL_law 2574 = .ok (.aload_n 0, 1) := by decide +kernel
theorem dL_law_2575 : decode cL_law 2575 = .ok (.iload 4, 2) := by decide +kernel
theorem dL_law_2577 : decode cL_law 2577 = .ok (.iconst 2, 1) := by decide +kernel
theorem dL_law_2578 : decode cL_law 2578 = .ok (.iadd, 1) := by decide +kernel
theorem dL_law_2579 : decode cL_law 2579 = .ok (.iaload, 1) := by decide +kernel
theorem dL_law_2580 : decode cL_law 2580 = .ok (.invokevirtual 333, 3) := by decide +kernel
theorem dL_law_2583 : decode cL_law 2583 = .ok (.istore 6, 2) := by decide +kernel
theorem dL_law_2585 : decode cL_law 2585 = .ok (.aload_n 2, 1) := by decide +kernel
theorem dL_law_2586 : decode cL_law 2586 = .ok (.invokevirtual 175, 3) := by decide +kernel
theorem dL_law_2589 : decode cL_law 2589 = .ok (.iload 5, 2) := by decide +kernel
theorem dL_law_2591 : decode cL_law 2591 = .ok (.if_icmp .eq 5, 3) := by decide +kernel
theorem dL_law_2594 : decode cL_law 2594 = .ok (.iconst 0, 1) := by decide +kernel
theorem dL_law_2595 : decode cL_law 2595 = .ok (.ireturn, 1) := by decide +kernel
theorem dL_law_2596 : decode cL_law 2596 = .ok (.iload 5, 2) := by decide +kernel
theorem dL_law_2598 : decode cL_law 2598 = .ok (.ifCond .ne 15, 3) := by decide +kernel
theorem dL_law_2601 : decode cL_law 2601 = .ok (.aload_n 3, 1) := by decide +kernel
theorem dL_law_2602 : decode cL_law 2602 = .ok (.iconst 0, 1) := by decide +kernel
theorem dL_law_2603 : decode cL_law 2603 = .ok (.laload, 1) := by decide +kernel
theorem dL_law_2604 : decode cL_law 2604 = .ok (.iload 6, 2) := by decide +kernel
theorem dL_law_2606 : decode cL_law 2606 = .ok (.i2l, 1) := by decide +kernel
theorem dL_law_2607 : decode cL_law 2607 = .ok (.lcmp, 1) := by decide +kernel
theorem dL_law_2608 : decode cL_law 2608 = .ok (.ifCond .eq 5, 3) := by decide +kernel
theorem dL_law_2611 : decode cL_law 2611 = .ok (.iconst 0, 1) := by decide +kernel
theorem dL_law_2612 : decode cL_law 2612 = .ok (.ireturn, 1) := by decide +kernel
theorem dL_law_2613 : decode cL_law 2613 = .ok (.goto 845, 3) := by decide +kernel
theorem dL_law_2616 : decode cL_law 2616 = .ok (.aload_n 1, 1) := by decide +kernel
theorem dL_law_2617 : decode cL_law 2617 = .ok (.aload_n 0, 1) := by decide +kernel
theorem dL_law_2618 : decode cL_law 2618 = .ok (.iload 4, 2) := by decide +kernel
theorem dL_law_2620 : decode cL_law 2620 = .ok (.iconst 1, 1) := by decide +kernel
theorem dL_law_2621 : decode cL_law 2621 = .ok (.iadd, 1) := by decide +kernel
theorem dL_law_2622 : decode cL_law 2622 = .ok (.iaload, 1) := by decide +kernel
theorem dL_law_2623 : decode cL_law 2623 = .ok (.aload_n 3, 1) := by decide +kernel
theorem dL_law_2624 : decode cL_law 2624 = .ok (.invokestatic 334, 3) := by decide +kernel
theorem dL_law_2627 : decode cL_law 2627 = .ok (.istore 5, 2) := by decide +kernel
theorem dL_law_2629 : decode cL_law 2629 = .ok (.aload_n 2, 1) := by decide +kernel
theorem dL_law_2630 : decode cL_law 2630 = .ok (.aload_n 0, 1) := by decide +kernel
theorem dL_law_2631 : decode cL_law 2631 = .ok (.iload 4, 2) := by decide +kernel
theorem dL_law_2633 : decode cL_law 2633 = .ok (.iconst 1, 1) := by decide +kernel
theorem dL_law_2634 : decode cL_law 2634 = .ok (.iadd, 1) := by decide +kernel
theorem dL_law_2635 : decode cL_law 2635 = .ok (.iaload, 1) := by decide +kernel
theorem dL_law_2636 : decode cL_law 2636 = .ok (.invokevirtual 336, 3) := by decide +kernel
theorem dL_law_2639 : decode cL_law 2639 = .ok (.istore 6, 2) := by decide +kernel
theorem dL_law_2641 : decode cL_law 2641 = .ok (.aload_n 2, 1) := by decide +kernel
theorem dL_law_2642 : decode cL_law 2642 = .ok (.invokevirtual 175, 3) := by decide +kernel
theorem dL_law_2645 : decode cL_law 2645 = .ok (.iload 5, 2) := by decide +kernel
theorem dL_law_2647 : decode cL_law 2647 = .ok (.if_icmp .eq 5, 3) := by decide +kernel
theorem dL_law_2650 : decode cL_law 2650 = .ok (.iconst 0, 1) := by decide +kernel
theorem dL_law_2651 : decode cL_law 2651 = .ok (.ireturn, 1) := by decide +kernel
theorem dL_law_2652 : decode cL_law 2652 = .ok (.iload 5, 2) := by decide +kernel
theorem dL_law_2654 : decode cL_law 2654 = .ok (.ifCond .ne 15, 3) := by decide +kernel
theorem dL_law_2657 : decode cL_law 2657 = .ok (.aload_n 3, 1) := by decide +kernel
theorem dL_law_2658 : decode cL_law 2658 = .ok (.iconst 0, 1) := by decide +kernel
theorem dL_law_2659 : decode cL_law 2659 = .ok (.laload, 1) := by decide +kernel
theorem dL_law_2660 : decode cL_law 2660 = .ok (.iload 6, 2) := by decide +kernel
theorem dL_law_2662 : decode cL_law 2662 = .ok (.i2l, 1) := by decide +kernel
theorem dL_law_2663 : decode cL_law 2663 = .ok (.lcmp, 1) := by decide +kernel
theorem dL_law_2664 : decode cL_law 2664 = .ok (.ifCond .eq 5, 3) := by decide +kernel
theorem dL_law_2667 : decode cL_law 2667 = .ok (.iconst 0, 1) := by decide +kernel
