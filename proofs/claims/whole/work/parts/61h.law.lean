/-! # the law: its bytes, 8 (wip/gen/mk61.py) -/
theorem dL_law__2297 : decode cL_law_ 2297 = .ok (.iload 4, 2) := by decide +kernel
theorem dL_law__2299 : decode cL_law_ 2299 = .ok (.iconst 5, 1) := by decide +kernel
theorem dL_law__2300 : decode cL_law_ 2300 = .ok (.iadd, 1) := by decide +kernel
theorem dL_law__2301 : decode cL_law_ 2301 = .ok (.iaload, 1) := by decide +kernel
theorem dL_law__2302 : decode cL_law_ 2302 = .ok (.invokevirtual 236, 3) := by decide +kernel
theorem dL_law__2305 : decode cL_law_ 2305 = .ok (.istore 6, 2) := by decide +kernel
theorem dL_law__2307 : decode cL_law_ 2307 = .ok (.aload_n 2, 1) := by decide +kernel
theorem dL_law__2308 : decode cL_law_ 2308 = .ok (.invokevirtual 125, 3) := by decide +kernel
theorem dL_law__2311 : decode cL_law_ 2311 = .ok (.iload 5, 2) := by decide +kernel
theorem dL_law__2313 : decode cL_law_ 2313 = .ok (.if_icmp .eq 5, 3) := by decide +kernel
theorem dL_law__2316 : decode cL_law_ 2316 = .ok (.iconst 0, 1) := by decide +kernel
theorem dL_law__2317 : decode cL_law_ 2317 = .ok (.ireturn, 1) := by decide +kernel
theorem dL_law__2318 : decode cL_law_ 2318 = .ok (.iload 5, 2) := by decide +kernel
theorem dL_law__2320 : decode cL_law_ 2320 = .ok (.ifCond .ne 15, 3) := by decide +kernel
theorem dL_law__2323 : decode cL_law_ 2323 = .ok (.aload_n 3, 1) := by decide +kernel
theorem dL_law__2324 : decode cL_law_ 2324 = .ok (.iconst 0, 1) := by decide +kernel
theorem dL_law__2325 : decode cL_law_ 2325 = .ok (.laload, 1) := by decide +kernel
theorem dL_law__2326 : decode cL_law_ 2326 = .ok (.iload 6, 2) := by decide +kernel
theorem dL_law__2328 : decode cL_law_ 2328 = .ok (.i2l, 1) := by decide +kernel
theorem dL_law__2329 : decode cL_law_ 2329 = .ok (.lcmp, 1) := by decide +kernel
theorem dL_law__2330 : decode cL_law_ 2330 = .ok (.ifCond .eq 5, 3) := by decide +kernel
theorem dL_law__2333 : decode cL_law_ 2333 = .ok (.iconst 0, 1) := by decide +kernel
theorem dL_law__2334 : decode cL_law_ 2334 = .ok (.ireturn, 1) := by decide +kernel
theorem dL_law__2335 : decode cL_law_ 2335 = .ok (.goto 211, 3) := by decide +kernel
theorem dL_law__2338 : decode cL_law_ 2338 = .ok (.aload_n 1, 1) := by decide +kernel
theorem dL_law__2339 : decode cL_law_ 2339 = .ok (.aload_n 0, 1) := by decide +kernel
theorem dL_law__2340 : decode cL_law_ 2340 = .ok (.iload 4, 2) := by decide +kernel
theorem dL_law__2342 : decode cL_law_ 2342 = .ok (.iconst 1, 1) := by decide +kernel
theorem dL_law__2343 : decode cL_law_ 2343 = .ok (.iadd, 1) := by decide +kernel
theorem dL_law__2344 : decode cL_law_ 2344 = .ok (.iaload, 1) := by decide +kernel
theorem dL_law__2345 : decode cL_law_ 2345 = .ok (.aload_n 0, 1) := by decide +kernel
theorem dL_law__2346 : decode cL_law_ 2346 = .ok (.iload 4, 2) := by decide +kernel
theorem dL_law__2348 : decode cL_law_ 2348 = .ok (.iconst 2, 1) := by decide +kernel
theorem dL_law__2349 : decode cL_law_ 2349 = .ok (.iadd, 1) := by decide +kernel
theorem dL_law__2350 : decode cL_law_ 2350 = .ok (.iaload, 1) := by decide +kernel
theorem dL_law__2351 : decode cL_law_ 2351 = .ok (.aload_n 0, 1) := by decide +kernel
theorem dL_law__2352 : decode cL_law_ 2352 = .ok (.iload 4, 2) := by decide +kernel
theorem dL_law__2354 : decode cL_law_ 2354 = .ok (.iconst 3, 1) := by decide +kernel
theorem dL_law__2355 : decode cL_law_ 2355 = .ok (.iadd, 1) := by decide +kernel
theorem dL_law__2356 : decode cL_law_ 2356 = .ok (.iaload, 1) := by decide +kernel
theorem dL_law__2357 : decode cL_law_ 2357 = .ok (.aload_n 0, 1) := by decide +kernel
theorem dL_law__2358 : decode cL_law_ 2358 = .ok (.iload 4, 2) := by decide +kernel
theorem dL_law__2360 : decode cL_law_ 2360 = .ok (.iconst 4, 1) := by decide +kernel
theorem dL_law__2361 : decode cL_law_ 2361 = .ok (.iadd, 1) := by decide +kernel
theorem dL_law__2362 : decode cL_law_ 2362 = .ok (.iaload, 1) := by decide +kernel
theorem dL_law__2363 : decode cL_law_ 2363 = .ok (.aload_n 0, 1) := by decide +kernel
theorem dL_law__2364 : decode cL_law_ 2364 = .ok (.iload 4, 2) := by decide +kernel
theorem dL_law__2366 : decode cL_law_ 2366 = .ok (.iconst 5, 1) := by decide +kernel
theorem dL_law__2367 : decode cL_law_ 2367 = .ok (.iadd, 1) := by decide +kernel
theorem dL_law__2368 : decode cL_law_ 2368 = .ok (.iaload, 1) := by decide +kernel
theorem dL_law__2369 : decode cL_law_ 2369 = .ok (.aload_n 0, 1) := by decide +kernel
theorem dL_law__2370 : decode cL_law_ 2370 = .ok (.iload 4, 2) := by decide +kernel
theorem dL_law__2372 : decode cL_law_ 2372 = .ok (.bipush 6, 2) := by decide +kernel
theorem dL_law__2374 : decode cL_law_ 2374 = .ok (.iadd, 1) := by decide +kernel
theorem dL_law__2375 : decode cL_law_ 2375 = .ok (.iaload, 1) := by decide +kernel
theorem dL_law__2376 : decode cL_law_ 2376 = .ok (.aload_n 0, 1) := by decide +kernel
theorem dL_law__2377 : decode cL_law_ 2377 = .ok (.iload 4, 2) := by decide +kernel
theorem dL_law__2379 : decode cL_law_ 2379 = .ok (.bipush 7, 2) := by decide +kernel
theorem dL_law__2381 : decode cL_law_ 2381 = .ok (.iadd, 1) := by decide +kernel
theorem dL_law__2382 : decode cL_law_ 2382 = .ok (.iaload, 1) := by decide +kernel
theorem dL_law__2383 : decode cL_law_ 2383 = .ok (.aload_n 3, 1) := by decide +kernel
theorem dL_law__2384 : decode cL_law_ 2384 = .ok (.invokestatic 237, 3) := by decide +kernel
theorem dL_law__2387 : decode cL_law_ 2387 = .ok (.istore 5, 2) := by decide +kernel
theorem dL_law__2389 : decode cL_law_ 2389 = .ok (.aload_n 2, 1) := by decide +kernel
theorem dL_law__2390 : decode cL_law_ 2390 = .ok (.aload_n 0, 1) := by decide +kernel
theorem dL_law__2391 : decode cL_law_ 2391 = .ok (.iload 4, 2) := by decide +kernel
theorem dL_law__2393 : decode cL_law_ 2393 = .ok (.iconst 1, 1) := by decide +kernel
theorem dL_law__2394 : decode cL_law_ 2394 = .ok (.iadd, 1) := by decide +kernel
theorem dL_law__2395 : decode cL_law_ 2395 = .ok (.iaload, 1) := by decide +kernel
theorem dL_law__2396 : decode cL_law_ 2396 = .ok (.aload_n 0, 1) := by decide +kernel
theorem dL_law__2397 : decode cL_law_ 2397 = .ok (.iload 4, 2) := by decide +kernel
theorem dL_law__2399 : decode cL_law_ 2399 = .ok (.iconst 2, 1) := by decide +kernel
theorem dL_law__2400 : decode cL_law_ 2400 = .ok (.iadd, 1) := by decide +kernel
theorem dL_law__2401 : decode cL_law_ 2401 = .ok (.iaload, 1) := by decide +kernel
theorem dL_law__2402 : decode cL_law_ 2402 = .ok (.aload_n 0, 1) := by decide +kernel
theorem dL_law__2403 : decode cL_law_ 2403 = .ok (.iload 4, 2) := by decide +kernel
theorem dL_law__2405 : decode cL_law_ 2405 = .ok (.iconst 3, 1) := by decide +kernel
theorem dL_law__2406 : decode cL_law_ 2406 = .ok (.iadd, 1) := by decide +kernel
theorem dL_law__2407 : decode cL_law_ 2407 = .ok (.iaload, 1) := by decide +kernel
theorem dL_law__2408 : decode cL_law_ 2408 = .ok (.aload_n 0, 1) := by decide +kernel
theorem dL_law__2409 : decode cL_law_ 2409 = .ok (.iload 4, 2) := by decide +kernel
theorem dL_law__2411 : decode cL_law_ 2411 = .ok (.iconst 4, 1) := by decide +kernel
theorem dL_law__2412 : decode cL_law_ 2412 = .ok (.iadd, 1) := by decide +kernel
theorem dL_law__2413 : decode cL_law_ 2413 = .ok (.iaload, 1) := by decide +kernel
theorem dL_law__2414 : decode cL_law_ 2414 = .ok (.aload_n 0, 1) := by decide +kernel
theorem dL_law__2415 : decode cL_law_ 2415 = .ok (.iload 4, 2) := by decide +kernel
theorem dL_law__2417 : decode cL_law_ 2417 = .ok (.iconst 5, 1) := by decide +kernel
theorem dL_law__2418 : decode cL_law_ 2418 = .ok (.iadd, 1) := by decide +kernel
theorem dL_law__2419 : decode cL_law_ 2419 = .ok (.iaload, 1) := by decide +kernel
theorem dL_law__2420 : decode cL_law_ 2420 = .ok (.aload_n 0, 1) := by decide +kernel
theorem dL_law__2421 : decode cL_law_ 2421 = .ok (.iload 4, 2) := by decide +kernel
theorem dL_law__2423 : decode cL_law_ 2423 = .ok (.bipush 6, 2) := by decide +kernel
theorem dL_law__2425 : decode cL_law_ 2425 = .ok (.iadd, 1) := by decide +kernel
theorem dL_law__2426 : decode cL_law_ 2426 = .ok (.iaload, 1) := by decide +kernel
theorem dL_law__2427 : decode cL_law_ 2427 = .ok (.aload_n 0, 1) := by decide +kernel
theorem dL_law__2428 : decode cL_law_ 2428 = .ok (.iload 4, 2) := by decide +kernel
theorem dL_law__2430 : decode cL_law_ 2430 = .ok (.bipush 7, 2) := by decide +kernel
theorem dL_law__2432 : decode cL_law_ 2432 = .ok (.iadd, 1) := by decide +kernel
theorem dL_law__2433 : decode cL_law_ 2433 = .ok (.iaload, 1) := by decide +kernel
theorem dL_law__2434 : decode cL_law_ 2434 = .ok (.invokevirtual 240, 3) := by decide +kernel
theorem dL_law__2437 : decode cL_law_ 2437 = .ok (.istore 6, 2) := by decide +kernel
theorem dL_law__2439 : decode cL_law_ 2439 = .ok (.aload_n 2, 1) := by decide +kernel
theorem dL_law__2440 : decode cL_law_ 2440 = .ok (.invokevirtual 125, 3) := by decide +kernel
theorem dL_law__2443 : decode cL_law_ 2443 = .ok (.iload 5, 2) := by decide +kernel
theorem dL_law__2445 : decode cL_law_ 2445 = .ok (.if_icmp .eq 5, 3) := by decide +kernel
theorem dL_law__2448 : decode cL_law_ 2448 = .ok (.iconst 0, 1) := by decide +kernel
theorem dL_law__2449 : decode cL_law_ 2449 = .ok (.ireturn, 1) := by decide +kernel
theorem dL_law__2450 : decode cL_law_ 2450 = .ok (.iload 5, 2) := by decide +kernel
theorem dL_law__2452 : decode cL_law_ 2452 = .ok (.ifCond .ne 15, 3) := by decide +kernel
theorem dL_law__2455 : decode cL_law_ 2455 = .ok (.aload_n 3, 1) := by decide +kernel
theorem dL_law__2456 : decode cL_law_ 2456 = .ok (.iconst 0, 1) := by decide +kernel
theorem dL_law__2457 : decode cL_law_ 2457 = .ok (.laload, 1) := by decide +kernel
theorem dL_law__2458 : decode cL_law_ 2458 = .ok (.iload 6, 2) := by decide +kernel
theorem dL_law__2460 : decode cL_law_ 2460 = .ok (.i2l, 1) := by decide +kernel
theorem dL_law__2461 : decode cL_law_ 2461 = .ok (.lcmp, 1) := by decide +kernel
theorem dL_law__2462 : decode cL_law_ 2462 = .ok (.ifCond .eq 5, 3) := by decide +kernel
theorem dL_law__2465 : decode cL_law_ 2465 = .ok (.iconst 0, 1) := by decide +kernel
theorem dL_law__2466 : decode cL_law_ 2466 = .ok (.ireturn, 1) := by decide +kernel
theorem dL_law__2467 : decode cL_law_ 2467 = .ok (.goto 79, 3) := by decide +kernel
theorem dL_law__2470 : decode cL_law_ 2470 = .ok (.aload_n 1, 1) := by decide +kernel
theorem dL_law__2471 : decode cL_law_ 2471 = .ok (.invokevirtual 241, 3) := by decide +kernel
theorem dL_law__2474 : decode cL_law_ 2474 = .ok (.aload_n 2, 1) := by decide +kernel
theorem dL_law__2475 : decode cL_law_ 2475 = .ok (.invokevirtual 244, 3) := by decide +kernel
theorem dL_law__2478 : decode cL_law_ 2478 = .ok (.if_icmp .eq 68, 3) := by decide +kernel
theorem dL_law__2481 : decode cL_law_ 2481 = .ok (.iconst 0, 1) := by decide +kernel
theorem dL_law__2482 : decode cL_law_ 2482 = .ok (.ireturn, 1) := by decide +kernel
theorem dL_law__2483 : decode cL_law_ 2483 = .ok (.aload_n 1, 1) := by decide +kernel
theorem dL_law__2484 : decode cL_law_ 2484 = .ok (.invokevirtual 245, 3) := by decide +kernel
theorem dL_law__2487 : decode cL_law_ 2487 = .ok (.aload_n 2, 1) := by decide +kernel
theorem dL_law__2488 : decode cL_law_ 2488 = .ok (.invokevirtual 248, 3) := by decide +kernel
theorem dL_law__2491 : decode cL_law_ 2491 = .ok (.if_icmp .eq 55, 3) := by decide +kernel
theorem dL_law__2494 : decode cL_law_ 2494 = .ok (.iconst 0, 1) := by decide +kernel
theorem dL_law__2495 : decode cL_law_ 2495 = .ok (.ireturn, 1) := by decide +kernel
theorem dL_law__2496 : decode cL_law_ 2496 = .ok (.aload_n 1, 1) := by decide +kernel
theorem dL_law__2497 : decode cL_law_ 2497 = .ok (.aload_n 0, 1) := by decide +kernel
theorem dL_law__2498 : decode cL_law_ 2498 = .ok (.iload 4, 2) := by decide +kernel
theorem dL_law__2500 : decode cL_law_ 2500 = .ok (.iconst 1, 1) := by decide +kernel
theorem dL_law__2501 : decode cL_law_ 2501 = .ok (.iadd, 1) := by decide +kernel
theorem dL_law__2502 : decode cL_law_ 2502 = .ok (.iaload, 1) := by decide +kernel
theorem dL_law__2503 : decode cL_law_ 2503 = .ok (.invokevirtual 249, 3) := by decide +kernel
theorem dL_law__2506 : decode cL_law_ 2506 = .ok (.aload_n 2, 1) := by decide +kernel
theorem dL_law__2507 : decode cL_law_ 2507 = .ok (.aload_n 0, 1) := by decide +kernel
theorem dL_law__2508 : decode cL_law_ 2508 = .ok (.iload 4, 2) := by decide +kernel
theorem dL_law__2510 : decode cL_law_ 2510 = .ok (.iconst 1, 1) := by decide +kernel
theorem dL_law__2511 : decode cL_law_ 2511 = .ok (.iadd, 1) := by decide +kernel
theorem dL_law__2512 : decode cL_law_ 2512 = .ok (.iaload, 1) := by decide +kernel
theorem dL_law__2513 : decode cL_law_ 2513 = .ok (.invokevirtual 252, 3) := by decide +kernel
theorem dL_law__2516 : decode cL_law_ 2516 = .ok (.if_icmp .eq 30, 3) := by decide +kernel
theorem dL_law__2519 : decode cL_law_ 2519 = .ok (.iconst 0, 1) := by decide +kernel
theorem dL_law__2520 : decode cL_law_ 2520 = .ok (.ireturn, 1) := by decide +kernel
theorem dL_law__2521 : decode cL_law_ 2521 = .ok (.aload_n 1, 1) := by decide +kernel
theorem dL_law__2522 : decode cL_law_ 2522 = .ok (.aload_n 0, 1) := by decide +kernel
theorem dL_law__2523 : decode cL_law_ 2523 = .ok (.iload 4, 2) := by decide +kernel
theorem dL_law__2525 : decode cL_law_ 2525 = .ok (.iconst 1, 1) := by decide +kernel
theorem dL_law__2526 : decode cL_law_ 2526 = .ok (.iadd, 1) := by decide +kernel
theorem dL_law__2527 : decode cL_law_ 2527 = .ok (.iaload, 1) := by decide +kernel
theorem dL_law__2528 : decode cL_law_ 2528 = .ok (.invokevirtual 253, 3) := by decide +kernel
theorem dL_law__2531 : decode cL_law_ 2531 = .ok (.aload_n 2, 1) := by decide +kernel
theorem dL_law__2532 : decode cL_law_ 2532 = .ok (.aload_n 0, 1) := by decide +kernel
theorem dL_law__2533 : decode cL_law_ 2533 = .ok (.iload 4, 2) := by decide +kernel
theorem dL_law__2535 : decode cL_law_ 2535 = .ok (.iconst 1, 1) := by decide +kernel
theorem dL_law__2536 : decode cL_law_ 2536 = .ok (.iadd, 1) := by decide +kernel
theorem dL_law__2537 : decode cL_law_ 2537 = .ok (.iaload, 1) := by decide +kernel
theorem dL_law__2538 : decode cL_law_ 2538 = .ok (.invokevirtual 256, 3) := by decide +kernel
theorem dL_law__2541 : decode cL_law_ 2541 = .ok (.if_icmp .eq 5, 3) := by decide +kernel
theorem dL_law__2544 : decode cL_law_ 2544 = .ok (.iconst 0, 1) := by decide +kernel
theorem dL_law__2545 : decode cL_law_ 2545 = .ok (.ireturn, 1) := by decide +kernel
theorem dL_law__2546 : decode cL_law_ 2546 = .ok (.iinc 4 9, 3) := by decide +kernel
theorem dL_law__2549 : decode cL_law_ 2549 = .ok (.goto (-2526), 3) := by decide +kernel
theorem dL_law__2552 : decode cL_law_ 2552 = .ok (.iconst 1, 1) := by decide +kernel
theorem dL_law__2553 : decode cL_law_ 2553 = .ok (.ireturn, 1) := by decide +kernel
