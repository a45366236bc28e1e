/-! rows of the law -/
theorem dL_law_2246 : decode cL_law 2246 = .ok (.iconst 0, 1) := by decide +kernel
theorem dL_law_2247 : decode cL_law 2247 = .ok (.ireturn, 1) := by decide +kernel
theorem dL_law_2248 : decode cL_law 2248 = .ok (.iload 6, 2) := by decide +kernel
theorem dL_law_2250 : decode cL_law 2250 = .ok (.ifCond .ne 35, 3) := by decide +kernel
theorem dL_law_2253 : decode cL_law 2253 = .ok (.aload 4, 2) := by decide +kernel
theorem dL_law_2255 : decode cL_law 2255 = .ok (.iconst 0, 1) := by decide +kernel
theorem dL_law_2256 : decode cL_law 2256 = .ok (.daload, 1) := by decide +kernel
theorem dL_law_2257 : decode cL_law 2257 = .ok (.dload 7, 2) := by decide +kernel
theorem dL_law_2259 : decode cL_law 2259 = .ok (.dcmp .l, 1) := by decide +kernel
theorem dL_law_2260 : decode cL_law 2260 = .ok (.ifCond .eq 25, 3) := by decide +kernel
theorem dL_law_2263 : decode cL_law 2263 = .ok (.aload 4, 2) := by decide +kernel
theorem dL_law_2265 : decode cL_law 2265 = .ok (.iconst 0, 1) := by decide +kernel
theorem dL_law_2266 : decode cL_law 2266 = .ok (.daload, 1) := by decide +kernel
theorem dL_law_2267 : decode cL_law 2267 = .ok (.aload 4, 2) := by decide +kernel
theorem dL_law_2269 : decode cL_law 2269 = .ok (.iconst 0, 1) := by decide +kernel
theorem dL_law_2270 : decode cL_law 2270 = .ok (.daload, 1) := by decide +kernel
theorem dL_law_2271 : decode cL_law 2271 = .ok (.dcmp .l, 1) := by decide +kernel
theorem dL_law_2272 : decode cL_law 2272 = .ok (.ifCond .eq 11, 3) := by decide +kernel
theorem dL_law_2275 : decode cL_law 2275 = .ok (.dload 7, 2) := by decide +kernel
theorem dL_law_2277 : decode cL_law 2277 = .ok (.dload 7, 2) := by decide +kernel
theorem dL_law_2279 : decode cL_law 2279 = .ok (.dcmp .l, 1) := by decide +kernel
theorem dL_law_2280 : decode cL_law 2280 = .ok (.ifCond .ne 5, 3) := by decide +kernel
theorem dL_law_2283 : decode cL_law 2283 = .ok (.iconst 0, 1) := by decide +kernel
theorem dL_law_2284 : decode cL_law 2284 = .ok (.ireturn, 1) := by decide +kernel
theorem dL_law_2285 : decode cL_law 2285 = .ok (.goto 962, 3) := by decide +kernel
theorem dL_law_2288 : decode cL_law 2288 = .ok (.aload_n 1, 1) := by decide +kernel
theorem dL_law_2289 : decode cL_law 2289 = .ok (.invokevirtual 323, 3) := by decide +kernel
theorem dL_law_2292 : decode cL_law 2292 = .ok (.aload_n 2, 1) := by decide +kernel
theorem dL_law_2293 : decode cL_law 2293 = .ok (.invokevirtual 326, 3) := by decide +kernel
theorem dL_law_2296 : decode cL_law 2296 = .ok (.if_icmp .eq 951, 3) := by decide +kernel
theorem dL_law_2299 : decode cL_law 2299 = .ok (.iconst 0, 1) := by decide +kernel
theorem dL_law_2300 : decode cL_law 2300 = .ok (.ireturn, 1) := by decide +kernel
theorem dL_law_2301 : decode cL_law 2301 = .ok (.aload_n 1, 1) := by decide +kernel
theorem dL_law_2302 : decode cL_law 2302 = .ok (.aload_n 0, 1) := by decide +kernel
theorem dL_law_2303 : decode cL_law 2303 = .ok (.iload 5, 2) := by decide +kernel
theorem dL_law_2305 : decode cL_law 2305 = .ok (.iconst 1, 1) := by decide +kernel
theorem dL_law_2306 : decode cL_law 2306 = .ok (.iadd, 1) := by decide +kernel
theorem dL_law_2307 : decode cL_law 2307 = .ok (.iaload, 1) := by decide +kernel
theorem dL_law_2308 : decode cL_law 2308 = .ok (.aload_n 3, 1) := by decide +kernel
theorem dL_law_2309 : decode cL_law 2309 = .ok (.invokestatic 327, 3) := by decide +kernel
theorem dL_law_2312 : decode cL_law 2312 = .ok (.istore 6, 2) := by decide +kernel
theorem dL_law_2314 : decode cL_law 2314 = .ok (.aload_n 2, 1) := by decide +kernel
theorem dL_law_2315 : decode cL_law 2315 = .ok (.aload_n 0, 1) := by decide +kernel
theorem dL_law_2316 : decode cL_law 2316 = .ok (.iload 5, 2) := by decide +kernel
theorem dL_law_2318 : decode cL_law 2318 = .ok (.iconst 1, 1) := by decide +kernel
theorem dL_law_2319 : decode cL_law 2319 = .ok (.iadd, 1) := by decide +kernel
theorem dL_law_2320 : decode cL_law 2320 = .ok (.iaload, 1) := by decide +kernel
theorem dL_law_2321 : decode cL_law 2321 = .ok (.invokevirtual 329, 3) := by decide +kernel
theorem dL_law_2324 : decode cL_law 2324 = .ok (.istore 7, 2) := by decide +kernel
theorem dL_law_2326 : decode cL_law 2326 = .ok (.aload_n 2, 1) := by decide +kernel
theorem dL_law_2327 : decode cL_law 2327 = .ok (.invokevirtual 184, 3) := by decide +kernel
theorem dL_law_2330 : decode cL_law 2330 = .ok (.iload 6, 2) := by decide +kernel
theorem dL_law_2332 : decode cL_law 2332 = .ok (.if_icmp .eq 5, 3) := by decide +kernel
theorem dL_law_2335 : decode cL_law 2335 = .ok (.iconst 0, 1) := by decide +kernel
theorem dL_law_2336 : decode cL_law 2336 = .ok (.ireturn, 1) := by decide +kernel
theorem dL_law_2337 : decode cL_law 2337 = .ok (.iload 6, 2) := by decide +kernel
theorem dL_law_2339 : decode cL_law 2339 = .ok (.ifCond .ne 15, 3) := by decide +kernel
theorem dL_law_2342 : decode cL_law 2342 = .ok (.aload_n 3, 1) := by decide +kernel
theorem dL_law_2343 : decode cL_law 2343 = .ok (.iconst 0, 1) := by decide +kernel
theorem dL_law_2344 : decode cL_law 2344 = .ok (.laload, 1) := by decide +kernel
theorem dL_law_2345 : decode cL_law 2345 = .ok (.iload 7, 2) := by decide +kernel
theorem dL_law_2347 : decode cL_law 2347 = .ok (.i2l, 1) := by decide +kernel
theorem dL_law_2348 : decode cL_law 2348 = .ok (.lcmp, 1) := by decide +kernel
theorem dL_law_2349 : decode cL_law 2349 = .ok (.ifCond .eq 5, 3) := by decide +kernel
theorem dL_law_2352 : decode cL_law 2352 = .ok (.iconst 0, 1) := by decide +kernel
theorem dL_law_2353 : decode cL_law 2353 = .ok (.ireturn, 1) := by decide +kernel
theorem dL_law_2354 : decode cL_law 2354 = .ok (.goto 893, 3) := by decide +kernel
theorem dL_law_2357 : decode cL_law 2357 = .ok (.aload_n 1, 1) := by decide +kernel
theorem dL_law_2358 : decode cL_law 2358 = .ok (.aload_n 0, 1) := by decide +kernel
theorem dL_law_2359 : decode cL_law 2359 = .ok (.iload 5, 2) := by decide +kernel
theorem dL_law_2361 : decode cL_law 2361 = .ok (.iconst 1, 1) := by decide +kernel
theorem dL_law_2362 : decode cL_law 2362 = .ok (.iadd, 1) := by decide +kernel
theorem dL_law_2363 : decode cL_law 2363 = .ok (.iaload, 1) := by decide +kernel
theorem dL_law_2364 : decode cL_law 2364 = .ok (.aload_n 3, 1) := by decide +kernel
theorem dL_law_2365 : decode cL_law 2365 = .ok (.invokestatic 330, 3) := by decide +kernel
theorem dL_law_2368 : decode cL_law 2368 = .ok (.istore 6, 2) := by decide +kernel
theorem dL_law_2370 : decode cL_law 2370 = .ok (.aload_n 2, 1) := by decide +kernel
theorem dL_law_2371 : decode cL_law 2371 = .ok (.aload_n 0, 1) := by decide +kernel
theorem dL_law_2372 : decode cL_law 2372 = .ok (.iload 5, 2) := by decide +kernel
theorem dL_law_2374 : decode cL_law 2374 = .ok (.iconst 1, 1) := by decide +kernel
theorem dL_law_2375 : decode cL_law 2375 = .ok (.iadd, 1) := by decide +kernel
theorem dL_law_2376 : decode cL_law 2376 = .ok (.iaload, 1) := by decide +kernel
theorem dL_law_2377 : decode cL_law 2377 = .ok (.invokevirtual 332, 3) := by decide +kernel
theorem dL_law_2380 : decode cL_law 2380 = .ok (.istore 7, 2) := by decide +kernel
theorem dL_law_2382 : decode cL_law 2382 = .ok (.aload_n 2, 1) := by decide +kernel
theorem dL_law_2383 : decode cL_law 2383 = .ok (.invokevirtual 184, 3) := by decide +kernel
theorem dL_law_2386 : decode cL_law 2386 = .ok (.iload 6, 2) := by decide +kernel
theorem dL_law_2388 : decode cL_law 2388 = .ok (.if_icmp .eq 5, 3) := by decide +kernel
theorem dL_law_2391 : decode cL_law 2391 = .ok (.iconst 0, 1) := by decide +kernel
theorem dL_law_2392 : decode cL_law 2392 = .ok (.ireturn, 1) := by decide +kernel
theorem dL_law_2393 : decode cL_law 2393 = .ok (.iload 6, 2) := by decide +kernel
theorem dL_law_2395 : decode cL_law 2395 = .ok (.ifCond .ne 15, 3) := by decide +kernel
theorem dL_law_2398 : decode cL_law 2398 = .ok (.aload_n 3, 1) := by decide +kernel
theorem dL_law_2399 : decode cL_law 2399 = .ok (.iconst 0, 1) := by decide +kernel
theorem dL_law_2400 : decode cL_law 2400 = .ok (.laload, 1) := by decide +kernel
theorem dL_law_2401 : decode cL_law 2401 = .ok (.iload 7, 2) := by decide +kernel
theorem dL_law_2403 : decode cL_law 2403 = .ok (.i2l, 1) := by decide +kernel
theorem dL_law_2404 : decode cL_law 2404 = .ok (.lcmp, 1) := by decide +kernel
theorem dL_law_2405 : decode cL_law 2405 = .ok (.ifCond .eq 5, 3) := by decide +kernel
theorem dL_law_2408 : decode cL_law 2408 = .ok (.iconst 0, 1) := by decide +kernel
theorem dL_law_2409 : decode cL_law 2409 = .ok (.ireturn, 1) := by decide +kernel
theorem dL_law_2410 : decode cL_law 2410 = .ok (.goto 837, 3) := by decide +kernel
theorem dL_law_2413 : decode cL_law 2413 = .ok (.aload_n 1, 1) := by decide +kernel
theorem dL_law_2414 : decode cL_law 2414 = .ok (.invokevirtual 333, 3) := by decide +kernel
theorem dL_law_2417 : decode cL_law 2417 = .ok (.aload_n 2, 1) := by decide +kernel
theorem dL_law_2418 : decode cL_law 2418 = .ok (.invokevirtual 336, 3) := by decide +kernel
theorem dL_law_2421 : decode cL_law 2421 = .ok (.if_icmp .eq 826, 3) := by decide +kernel
theorem dL_law_2424 : decode cL_law 2424 = .ok (.iconst 0, 1) := by decide +kernel
theorem dL_law_2425 : decode cL_law 2425 = .ok (.ireturn, 1) := by decide +kernel
theorem dL_law_2426 : decode cL_law 2426 = .ok (.aload_n 1, 1) := by decide +kernel
theorem dL_law_2427 : decode cL_law 2427 = .ok (.aload_n 0, 1) := by decide +kernel
theorem dL_law_2428 : decode cL_law 2428 = .ok (.iload 5, 2) := by decide +kernel
theorem dL_law_2430 : decode cL_law 2430 = .ok (.iconst 1, 1) := by decide +kernel
theorem dL_law_2431 : decode cL_law 2431 = .ok (.iadd, 1) := by decide +kernel
theorem dL_law_2432 : decode cL_law 2432 = .ok (.iaload, 1) := by decide +kernel
theorem dL_law_2433 : decode cL_law 2433 = .ok (.aload_n 3, 1) := by decide +kernel
theorem dL_law_2434 : decode cL_law 2434 = .ok (.invokestatic 337, 3) := by decide +kernel
theorem dL_law_2437 : decode cL_law 2437 = .ok (.istore 6, 2) := by decide +kernel
theorem dL_law_2439 : decode cL_law 2439 = .ok (.aload_n 2, 1) := by decide +kernel
theorem dL_law_2440 : decode cL_law 2440 = .ok (.aload_n 0, 1) := by decide +kernel
theorem dL_law_2441 : decode cL_law 2441 = .ok (.iload 5, 2) := by decide +kernel
theorem dL_law_2443 : decode cL_law 2443 = .ok (.iconst 1, 1) := by decide +kernel
theorem dL_law_2444 : decode cL_law 2444 = .ok (.iadd, 1) := by decide +kernel
theorem dL_law_2445 : decode cL_law 2445 = .ok (.iaload, 1) := by decide +kernel
theorem dL_law_2446 : decode cL_law 2446 = .ok (.invokevirtual 339, 3) := by decide +kernel
theorem dL_law_2449 : decode cL_law 2449 = .ok (.istore 7, 2) := by decide +kernel
theorem dL_law_2451 : decode cL_law 2451 = .ok (.aload_n 2, 1) := by decide +kernel
theorem dL_law_2452 : decode cL_law 2452 = .ok (.invokevirtual 184, 3) := by decide +kernel
theorem dL_law_2455 : decode cL_law 2455 = .ok (.iload 6, 2) := by decide +kernel
theorem dL_law_2457 : decode cL_law 2457 = .ok (.if_icmp .eq 5, 3) := by decide +kernel
theorem dL_law_2460 : decode cL_law 2460 = .ok (.iconst 0, 1) := by decide +kernel
theorem dL_law_2461 : decode cL_law 2461 = .ok (.ireturn, 1) := by decide +kernel
theorem dL_law_2462 : decode cL_law 2462 = .ok (.iload 6, 2) := by decide +kernel
theorem dL_law_2464 : decode cL_law 2464 = .ok (.ifCond .ne 22, 3) := by decide +kernel
theorem dL_law_2467 : decode cL_law 2467 = .ok (.aload_n 3, 1) := by decide +kernel
theorem dL_law_2468 : decode cL_law 2468 = .ok (.iconst 0, 1) := by decide +kernel
theorem dL_law_2469 : decode cL_law 2469 = .ok (.laload, 1) := by decide +kernel
theorem dL_law_2470 : decode cL_law 2470 = .ok (.iload 7, 2) := by decide +kernel
theorem dL_law_2472 : decode cL_law 2472 = .ok (.ifCond .eq 7, 3) := by decide +kernel
theorem dL_law_2475 : decode cL_law 2475 = .ok (.lconst 1, 1) := by decide +kernel
theorem dL_law_2476 : decode cL_law 2476 = .ok (.goto 4, 3) := by decide +kernel
theorem dL_law_2479 : decode cL_law 2479 = .ok (.lconst 0, 1) := by decide +kernel
theorem dL_law_2480 : decode cL_law 2480 = .ok (.lcmp, 1) := by decide +kernel
theorem dL_law_2481 : decode cL_law 2481 = .ok (.ifCond .eq 5, 3) := by decide +kernel
theorem dL_law_2484 : decode cL_law 2484 = .ok (.iconst 0, 1) := by decide +kernel
theorem dL_law_2485 : decode cL_law 2485 = .ok (.ireturn, 1) := by decide +kernel
theorem dL_law_2486 : decode cL_law 2486 = .ok (.goto 761, 3) := by decide +kernel
theorem dL_law_2489 : decode cL_law 2489 = .ok (.aload_n 1, 1) := by decide +kernel
theorem dL_law_2490 : decode cL_law 2490 = .ok (.aload_n 0, 1) := by decide +kernel
theorem dL_law_2491 : decode cL_law 2491 = .ok (.iload 5, 2) := by decide +kernel
theorem dL_law_2493 : decode cL_law 2493 = .ok (.iconst 1, 1) := by decide +kernel
theorem dL_law_2494 : decode cL_law 2494 = .ok (.iadd, 1) := by decide +kernel
theorem dL_law_2495 : decode cL_law 2495 = .ok (.iaload, 1) := by decide +kernel
theorem dL_law_2496 : decode cL_law 2496 = .ok (.aload_n 3, 1) := by decide +kernel
theorem dL_law_2497 : decode cL_law 2497 = .ok (.invokestatic 340, 3) := by decide +kernel
theorem dL_law_2500 : decode cL_law 2500 = .ok (.istore 6, 2) := by decide +kernel
theorem dL_law_2502 : decode cL_law 2502 = .ok (.aload_n 2, 1) := by decide +kernel
theorem dL_law_2503 : decode cL_law 2503 = .ok (.aload_n 0, 1) := by decide +kernel
theorem dL_law_2504 : decode cL_law 2504 = .ok (.iload 5, 2) := by decide +kernel
theorem dL_law_2506 : decode cL_law 2506 = .ok (.iconst 1, 1) := by decide +kernel
theorem dL_law_2507 : decode cL_law 2507 = .ok (.iadd, 1) := by decide +kernel
theorem dL_law_2508 : decode cL_law 2508 = .ok (.iaload, 1) := by decide +kernel
theorem dL_law_2509 : decode cL_law 2509 = .ok (.invokevirtual 342, 3) := by decide +kernel
theorem dL_law_2512 : decode cL_law 2512 = .ok (.istore 7, 2) := by decide +kernel
theorem dL_law_2514 : decode cL_law 2514 = .ok (.aload_n 2, 1) := by decide +kernel
theorem dL_law_2515 : decode cL_law 2515 = .ok (.invokevirtual 184, 3) := by decide +kernel
theorem dL_law_2518 : decode cL_law 2518 = .ok (.iload 6, 2) := by decide +kernel
theorem dL_law_2520 : decode cL_law 2520 = .ok (.if_icmp .eq 5, 3) := by decide +kernel
theorem dL_law_2523 : decode cL_law 2523 = .ok (.iconst 0, 1) := by decide +kernel
theorem dL_law_2524 : decode cL_law 2524 = .ok (.ireturn, 1) := by decide +kernel
theorem dL_law_2525 : decode cL_law 2525 = .ok (.iload 6, 2) := by decide +kernel
theorem dL_law_2527 : decode cL_law 2527 = .ok (.ifCond .ne 22, 3) := by decide +kernel
theorem dL_law_2530 : decode cL_law 2530 = .ok (.aload_n 3, 1) := by decide +kernel
theorem dL_law_2531 : decode cL_law 2531 = .ok (.iconst 0, 1) := by decide +kernel
theorem dL_law_2532 : decode cL_law 2532 = .ok (.laload, 1) := by decide +kernel
theorem dL_law_2533 : decode cL_law 2533 = .ok (.iload 7, 2) := by decide +kernel
theorem dL_law_2535 : decode cL_law 2535 = .ok (.ifCond .eq 7, 3) := by decide +kernel
theorem dL_law_2538 : decode cL_law 2538 = .ok (.lconst 1, 1) := by decide +kernel
theorem dL_law_2539 : decode cL_law 2539 = .ok (.goto 4, 3) := by decide +kernel
theorem dL_law_2542 : decode cL_law 2542 = .ok (.lconst 0, 1) := by decide +kernel
theorem dL_law_2543 : decode cL_law 2543 = .ok (.lcmp, 1) := by decide +kernel
theorem dL_law_2544 : decode cL_law 2544 = .ok (.ifCond .eq 5, 3) := by decide +kernel
theorem dL_law_2547 : decode cL_law 2547 = .ok (.iconst 0, 1) := by decide +kernel
theorem dL_law_2548 : decode cL_law 2548 = .ok (.ireturn, 1) := by decide +kernel
theorem dL_law_2549 : decode cL_law 2549 = .ok (.goto 698, 3) := by decide +kernel
theorem dL_law_2552 : decode cL_law 2552 = .ok (.aload_n 1, 1) := by decide +kernel
theorem dL_law_2553 : decode cL_law 2553 = .ok (.aload_n 0, 1) := by decide +kernel
theorem dL_law_2554 : decode cL_law 2554 = .ok (.iload 5, 2) := by decide +kernel
theorem dL_law_2556 : decode cL_law 2556 = .ok (.iconst 1, 1) := by decide +kernel
theorem dL_law_2557 : decode cL_law 2557 = .ok (.iadd, 1) := by decide +kernel
theorem dL_law_2558 : decode cL_law 2558 = .ok (.iaload, 1) := by decide +kernel
theorem dL_law_2559 : decode cL_law 2559 = .ok (.aload_n 3, 1) := by decide +kernel
theorem dL_law_2560 : decode cL_law 2560 = .ok (.invokestatic 343, 3) := by decide +kernel
theorem dL_law_2563 : decode cL_law 2563 = .ok (.istore 6, 2) := by decide +kernel
theorem dL_law_2565 : decode cL_law 2565 = .ok (.aload_n 2, 1) := by decide +kernel
theorem dL_law_2566 : decode cL_law 2566 = .ok (.aload_n 0, 1) := by decide +kernel
theorem dL_law_2567 : decode cL_law 2567 = .ok (.iload 5, 2) := by decide +kernel
theorem dL_law_2569 : decode cL_law 2569 = .ok (.iconst 1, 1) := by decide +kernel
theorem dL_law_2570 : decode cL_law 2570 = .ok (.iadd, 1) := by decide +kernel
theorem dL_law_2571 : decode cL_law 2571 = .ok (.iaload, 1) := by decide +kernel
theorem dL_law_2572 : decode cL_law 2572 = .ok (.invokevirtual 345, 3) := by decide +kernel
theorem dL_law_2575 : decode cL_law 2575 = .ok (.istore 7, 2) := by decide +kernel
theorem dL_law_2577 : decode cL_law 2577 = .ok (.aload_n 2, 1) := by decide +kernel
theorem dL_law_2578 : decode cL_law 2578 = .ok (.invokevirtual 184, 3) := by decide +kernel
theorem dL_law_2581 : decode cL_law 2581 = .ok (.iload 6, 2) := by decide +kernel
theorem dL_law_2583 : decode cL_law 2583 = .ok (.if_icmp .eq 5, 3) := by decide +kernel
theorem dL_law_2586 : decode cL_law 2586 = .ok (.iconst 0, 1) := by decide +kernel
theorem dL_law_2587 : decode cL_law 2587 = .ok (.ireturn, 1) := by decide +kernel
theorem dL_law_2588 : decode cL_law 2588 = .ok (.iload 6, 2) := by decide +kernel
theorem dL_law_2590 : decode cL_law 2590 = .ok (.ifCond .ne 15, 3) := by decide +kernel
theorem dL_law_2593 : decode cL_law 2593 = .ok (.aload_n 3, 1) := by decide +kernel
theorem dL_law_2594 : decode cL_law 2594 = .ok (.iconst 0, 1) := by decide +kernel
theorem dL_law_2595 : decode cL_law 2595 = .ok (.laload, 1) := by decide +kernel
theorem dL_law_2596 : decode cL_law 2596 = .ok (.iload 7, 2) := by decide +kernel
theorem dL_law_2598 : decode cL_law 2598 = .ok (.i2l, 1) := by decide +kernel
theorem dL_law_2599 : decode cL_law 2599 = .ok (.lcmp, 1) := by decide +kernel
theorem dL_law_2600 : decode cL_law 2600 = .ok (.ifCond .eq 5, 3) := by decide +kernel
theorem dL_law_2603 : decode cL_law 2603 = .ok (.iconst 0, 1) := by decide +kernel
theorem dL_law_2604 : decode cL_law 2604 = .ok (.ireturn, 1) := by decide +kernel
theorem dL_law_2605 : decode cL_law 2605 = .ok (.goto 642, 3) := by decide +kernel
theorem dL_law_2608 : decode cL_law 2608 = .ok (.aload_n 1, 1) := by decide +kernel
theorem dL_law_2609 : decode cL_law 2609 = .ok (.aload_n 0, 1) := by decide +kernel
theorem dL_law_2610 : decode cL_law 2610 = .ok (.iload 5, 2) := by decide +kernel
theorem dL_law_2612 : decode cL_law 2612 = .ok (.iconst 1, 1) := by decide +kernel
theorem dL_law_2613 : decode cL_law 2613 = .ok (.iadd, 1) := by decide +kernel
theorem dL_law_2614 : decode cL_law 2614 = .ok (.iaload, 1) := by decide +kernel
theorem dL_law_2615 : decode cL_law 2615 = .ok (.aload_n 0, 1) := by decide +kernel
theorem dL_law_2616 : decode cL_law 2616 = .ok (.iload 5, 2) := by decide +kernel
theorem dL_law_2618 : decode cL_law 2618 = .ok (.iconst 2, 1) := by decide +kernel
theorem dL_law_2619 : decode cL_law 2619 = .ok (.iadd, 1) := by decide +kernel
theorem dL_law_2620 : decode cL_law 2620 = .ok (.iaload, 1) := by decide +kernel
theorem dL_law_2621 : decode cL_law 2621 = .ok (.aload_n 3, 1) := by decide +kernel
theorem dL_law_2622 : decode cL_law 2622 = .ok (.invokestatic 346, 3) := by decide +kernel
theorem dL_law_2625 : decode cL_law 2625 = .ok (.istore 6, 2) := by decide +kernel
theorem dL_law_2627 : decode cL_law 2627 = .ok (.aload_n 2, 1) := by decide +kernel
theorem dL_law_2628 : decode cL_law 2628 = .ok (.aload_n 0, 1) := by decide +kernel
theorem dL_law_2629 : decode cL_law 2629 = .ok (.iload 5, 2) := by decide +kernel
theorem dL_law_2631 : decode cL_law 2631 = .ok (.iconst 1, 1) := by decide +kernel
theorem dL_law_2632 : decode cL_law 2632 = .ok (.iadd, 1) := by decide +kernel
theorem dL_law_2633 : decode cL_law 2633 = .ok (.iaload, 1) := by decide +kernel
theorem dL_law_2634 : decode cL_law 2634 = .ok (.aload_n 0, 1) := by decide +kernel
theorem dL_law_2635 : decode cL_law 2635 = .ok (.iload 5, 2) := by decide +kernel
theorem dL_law_2637 : decode cL_law 2637 = .ok (.iconst 2, 1) := by decide +kernel
theorem dL_law_2638 : decode cL_law 2638 = .ok (.iadd, 1) := by decide +kernel
theorem dL_law_2639 : decode cL_law 2639 = .ok (.iaload, 1) := by decide +kernel
theorem dL_law_2640 : decode cL_law 2640 = .ok (.invokevirtual 348, 3) := by decide +kernel
theorem dL_law_2643 : decode cL_law 2643 = .ok (.istore 7, 2) := by decide +kernel
theorem dL_law_2645 : decode cL_law 2645 = .ok (.aload_n 2, 1) := by decide +kernel
theorem dL_law_2646 : decode cL_law 2646 = .ok (.invokevirtual 184, 3) := by decide +kernel
theorem dL_law_2649 : decode cL_law 2649 = .ok (.iload 6, 2) := by decide +kernel
theorem dL_law_2651 : decode cL_law 2651 = .ok (.if_icmp .eq 5, 3) := by decide +kernel
theorem dL_law_2654 : decode cL_law 2654 = .ok (.iconst 0, 1) := by decide +kernel
theorem dL_law_2655 : decode cL_law 2655 = .ok (.ireturn, 1) := by decide +kernel
theorem dL_law_2656 : decode cL_law 2656 = .ok (.iload 6, 2) := by decide +kernel
theorem dL_law_2658 : decode cL_law 2658 = .ok (.ifCond .ne 22, 3) := by decide +kernel
theorem dL_law_2661 : decode cL_law 2661 = .ok (.aload_n 3, 1) := by decide +kernel
theorem dL_law_2662 : decode cL_law 2662 = .ok (.iconst 0, 1) := by decide +kernel
theorem dL_law_2663 : decode cL_law 2663 = .ok (.laload, 1) := by decide +kernel
theorem dL_law_2664 : decode cL_law 2664 = .ok (.iload 7, 2) := by decide +kernel
theorem dL_law_2666 : decode cL_law 2666 = .ok (.ifCond .eq 7, 3) := by decide +kernel
theorem dL_law_2669 : decode cL_law 2669 = .ok (.lconst 1, 1) := by decide +kernel
theorem dL_law_2670 : decode cL_law 2670 = .ok (.goto 4, 3) := by decide +kernel
theorem dL_law_2673 : decode cL_law 2673 = .ok (.lconst 0, 1) := by decide +kernel
theorem dL_law_2674 : decode cL_law 2674 = .ok (.lcmp, 1) := by decide +kernel
theorem dL_law_2675 : decode cL_law 2675 = .ok (.ifCond .eq 5, 3) := by decide +kernel
theorem dL_law_2678 : decode cL_law 2678 = .ok (.iconst 0, 1) := by decide +kernel
theorem dL_law_2679 : decode cL_law 2679 = .ok (.ireturn, 1) := by decide +kernel
theorem dL_law_2680 : decode cL_law 2680 = .ok (.goto 567, 3) := by decide +kernel
theorem dL_law_2683 : decode cL_law 2683 = .ok (.aload_n 1, 1) := by decide +kernel
theorem dL_law_2684 : decode cL_law 2684 = .ok (.aload_n 0, 1) := by decide +kernel
theorem dL_law_2685 : decode cL_law 2685 = .ok (.iload 5, 2) := by decide +kernel
theorem dL_law_2687 : decode cL_law 2687 = .ok (.iconst 1, 1) := by decide +kernel
theorem dL_law_2688 : decode cL_law 2688 = .ok (.iadd, 1) := by decide +kernel
theorem dL_law_2689 : decode cL_law 2689 = .ok (.iaload, 1) := by decide +kernel
theorem dL_law_2690 : decode cL_law 2690 = .ok (.aload_n 3, 1) := by decide +kernel
theorem dL_law_2691 : decode cL_law 2691 = .ok (.invokestatic 349, 3) := by decide +kernel
theorem dL_law_2694 : decode cL_law 2694 = .ok (.istore 6, 2) := by decide +kernel
theorem dL_law_2696 : decode cL_law 2696 = .ok (.aload_n 2, 1) := by decide +kernel
theorem dL_law_2697 : decode cL_law 2697 = .ok (.aload_n 0, 1) := by decide +kernel
theorem dL_law_2698 : decode cL_law 2698 = .ok (.iload 5, 2) := by decide +kernel
theorem dL_law_2700 : decode cL_law 2700 = .ok (.iconst 1, 1) := by decide +kernel
theorem dL_law_2701 : decode cL_law 2701 = .ok (.iadd, 1) := by decide +kernel
theorem dL_law_2702 : decode cL_law 2702 = .ok (.iaload, 1) := by decide +kernel
theorem dL_law_2703 : decode cL_law 2703 = .ok (.invokevirtual 351, 3) := by decide +kernel
theorem dL_law_2706 : decode cL_law 2706 = .ok (.istore 7, 2) := by decide +kernel
theorem dL_law_2708 : decode cL_law 2708 = .ok (.aload_n 2, 1) := by decide +kernel
theorem dL_law_2709 : decode cL_law 2709 = .ok (.invokevirtual 184, 3) := by decide +kernel
theorem dL_law_2712 : decode cL_law 2712 = .ok (.iload 6, 2) := by decide +kernel
theorem dL_law_2714 : decode cL_law 2714 = .ok (.if_icmp .eq 5, 3) := by decide +kernel
theorem dL_law_2717 : decode cL_law 2717 = .ok (.iconst 0, 1) := by decide +kernel
theorem dL_law_2718 : decode cL_law 2718 = .ok (.ireturn, 1) := by decide +kernel
theorem dL_law_2719 : decode cL_law 2719 = .ok (.iload 6, 2) := by decide +kernel
theorem dL_law_2721 : decode cL_law 2721 = .ok (.ifCond .ne 15, 3) := by decide +kernel
theorem dL_law_2724 : decode cL_law 2724 = .ok (.aload_n 3, 1) := by decide +kernel
theorem dL_law_2725 : decode cL_law 2725 = .ok (.iconst 0, 1) := by decide +kernel
theorem dL_law_2726 : decode cL_law 2726 = .ok (.laload, 1) := by decide +kernel
theorem dL_law_2727 : decode cL_law 2727 = .ok (.iload 7, 2) := by decide +kernel
theorem dL_law_2729 : decode cL_law 2729 = .ok (.i2l, 1) := by decide +kernel
theorem dL_law_2730 : decode cL_law 2730 = .ok (.lcmp, 1) := by decide +kernel
theorem dL_law_2731 : decode cL_law 2731 = .ok (.ifCond .eq 5, 3) := by decide +kernel
theorem dL_law_2734 : decode cL_law 2734 = .ok (.iconst 0, 1) := by decide +kernel
theorem dL_law_2735 : decode cL_law 2735 = .ok (.ireturn, 1) := by decide +kernel
theorem dL_law_2736 : decode cL_law 2736 = .ok (.goto 511, 3) := by decide +kernel
theorem dL_law_2739 : decode cL_law 2739 = .ok (.aload_n 1, 1) := by decide +kernel
theorem dL_law_2740 : decode cL_law 2740 = .ok (.invokevirtual 352, 3) := by decide +kernel
theorem dL_law_2743 : decode cL_law 2743 = .ok (.aload_n 2, 1) := by decide +kernel
theorem dL_law_2744 : decode cL_law 2744 = .ok (.invokevirtual 355, 3) := by decide +kernel
theorem dL_law_2747 : decode cL_law 2747 = .ok (.if_icmp .eq 500, 3) := by decide +kernel
theorem dL_law_2750 : decode cL_law 2750 = .ok (.iconst 0, 1) := by decide +kernel
theorem dL_law_2751 : decode cL_law 2751 = .ok (.ireturn, 1) := by decide +kernel
