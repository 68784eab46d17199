/-! THE LAW'S CODE, row by row -/
theorem dL_law_2420 : decode cL_law 2420 = .ok (.ifCond .ne 15, 3) := by decide +kernel
theorem dL_law_2423 : decode cL_law 2423 = .ok (.aload_n 3, 1) := by decide +kernel
theorem dL_law_2424 : decode cL_law 2424 = .ok (.iconst 0, 1) := by decide +kernel
theorem dL_law_2425 : decode cL_law 2425 = .ok (.laload, 1) := by decide +kernel
theorem dL_law_2426 : decode cL_law 2426 = .ok (.iload 6, 2) := by decide +kernel
theorem dL_law_2428 : decode cL_law 2428 = .ok (.i2l, 1) := by decide +kernel
theorem dL_law_2429 : decode cL_law 2429 = .ok (.lcmp, 1) := by decide +kernel
theorem dL_law_2430 : decode cL_law 2430 = .ok (.ifCond .eq 5, 3) := by decide +kernel
theorem dL_law_2435 : decode cL_law 2435 = .ok (.goto 661, 3) := by decide +kernel
theorem dL_law_2438 : decode cL_law 2438 = .ok (.aload_n 1, 1) := by decide +kernel
theorem dL_law_2439 : decode cL_law 2439 = .ok (.aload_n 0, 1) := by decide +kernel
theorem dL_law_2440 : decode cL_law 2440 = .ok (.iload 4, 2) := by decide +kernel
theorem dL_law_2442 : decode cL_law 2442 = .ok (.iconst 1, 1) := by decide +kernel
theorem dL_law_2443 : decode cL_law 2443 = .ok (.iadd, 1) := by decide +kernel
theorem dL_law_2444 : decode cL_law 2444 = .ok (.iaload, 1) := by decide +kernel
theorem dL_law_2445 : decode cL_law 2445 = .ok (.aload_n 3, 1) := by decide +kernel
theorem dL_law_2446 : decode cL_law 2446 = .ok (.invokestatic 331, 3) := by decide +kernel
theorem dL_law_2449 : decode cL_law 2449 = .ok (.istore 5, 2) := by decide +kernel
theorem dL_law_2451 : decode cL_law 2451 = .ok (.aload_n 2, 1) := by decide +kernel
theorem dL_law_2452 : decode cL_law 2452 = .ok (.aload_n 0, 1) := by decide +kernel
theorem dL_law_2453 : decode cL_law 2453 = .ok (.iload 4, 2) := by decide +kernel
theorem dL_law_2455 : decode cL_law 2455 = .ok (.iconst 1, 1) := by decide +kernel
theorem dL_law_2456 : decode cL_law 2456 = .ok (.iadd, 1) := by decide +kernel
theorem dL_law_2457 : decode cL_law 2457 = .ok (.iaload, 1) := by decide +kernel
theorem dL_law_2458 : decode cL_law 2458 = .ok (.invokevirtual 333, 3) := by decide +kernel
theorem dL_law_2461 : decode cL_law 2461 = .ok (.istore 6, 2) := by decide +kernel
theorem dL_law_2463 : decode cL_law 2463 = .ok (.aload_n 2, 1) := by decide +kernel
theorem dL_law_2464 : decode cL_law 2464 = .ok (.invokevirtual 180, 3) := by decide +kernel
theorem dL_law_2467 : decode cL_law 2467 = .ok (.iload 5, 2) := by decide +kernel
theorem dL_law_2469 : decode cL_law 2469 = .ok (.if_icmp .eq 5, 3) := by decide +kernel
theorem dL_law_2474 : decode cL_law 2474 = .ok (.iload 5, 2) := by decide +kernel
theorem dL_law_2476 : decode cL_law 2476 = .ok (.ifCond .ne 15, 3) := by decide +kernel
theorem dL_law_2479 : decode cL_law 2479 = .ok (.aload_n 3, 1) := by decide +kernel
theorem dL_law_2480 : decode cL_law 2480 = .ok (.iconst 0, 1) := by decide +kernel
theorem dL_law_2481 : decode cL_law 2481 = .ok (.laload, 1) := by decide +kernel
theorem dL_law_2482 : decode cL_law 2482 = .ok (.iload 6, 2) := by decide +kernel
theorem dL_law_2484 : decode cL_law 2484 = .ok (.i2l, 1) := by decide +kernel
theorem dL_law_2485 : decode cL_law 2485 = .ok (.lcmp, 1) := by decide +kernel
theorem dL_law_2486 : decode cL_law 2486 = .ok (.ifCond .eq 5, 3) := by decide +kernel
theorem dL_law_2491 : decode cL_law 2491 = .ok (.goto 605, 3) := by decide +kernel
theorem dL_law_2494 : decode cL_law 2494 = .ok (.aload_n 1, 1) := by decide +kernel
theorem dL_law_2495 : decode cL_law 2495 = .ok (.aload_n 0, 1) := by decide +kernel
theorem dL_law_2496 : decode cL_law 2496 = .ok (.iload 4, 2) := by decide +kernel
theorem dL_law_2498 : decode cL_law 2498 = .ok (.iconst 1, 1) := by decide +kernel
theorem dL_law_2499 : decode cL_law 2499 = .ok (.iadd, 1) := by decide +kernel
theorem dL_law_2500 : decode cL_law 2500 = .ok (.iaload, 1) := by decide +kernel
theorem dL_law_2501 : decode cL_law 2501 = .ok (.aload_n 3, 1) := by decide +kernel
theorem dL_law_2502 : decode cL_law 2502 = .ok (.invokestatic 334, 3) := by decide +kernel
theorem dL_law_2505 : decode cL_law 2505 = .ok (.istore 5, 2) := by decide +kernel
theorem dL_law_2507 : decode cL_law 2507 = .ok (.aload_n 2, 1) := by decide +kernel
theorem dL_law_2508 : decode cL_law 2508 = .ok (.aload_n 0, 1) := by decide +kernel
theorem dL_law_2509 : decode cL_law 2509 = .ok (.iload 4, 2) := by decide +kernel
theorem dL_law_2511 : decode cL_law 2511 = .ok (.iconst 1, 1) := by decide +kernel
theorem dL_law_2512 : decode cL_law 2512 = .ok (.iadd, 1) := by decide +kernel
theorem dL_law_2513 : decode cL_law 2513 = .ok (.iaload, 1) := by decide +kernel
theorem dL_law_2514 : decode cL_law 2514 = .ok (.invokevirtual 336, 3) := by decide +kernel
theorem dL_law_2517 : decode cL_law 2517 = .ok (.istore 6, 2) := by decide +kernel
theorem dL_law_2519 : decode cL_law 2519 = .ok (.aload_n 2, 1) := by decide +kernel
theorem dL_law_2520 : decode cL_law 2520 = .ok (.invokevirtual 180, 3) := by decide +kernel
theorem dL_law_2523 : decode cL_law 2523 = .ok (.iload 5, 2) := by decide +kernel
theorem dL_law_2525 : decode cL_law 2525 = .ok (.if_icmp .eq 5, 3) := by decide +kernel
theorem dL_law_2530 : decode cL_law 2530 = .ok (.iload 5, 2) := by decide +kernel
theorem dL_law_2532 : decode cL_law 2532 = .ok (.ifCond .ne 15, 3) := by decide +kernel
theorem dL_law_2535 : decode cL_law 2535 = .ok (.aload_n 3, 1) := by decide +kernel
theorem dL_law_2536 : decode cL_law 2536 = .ok (.iconst 0, 1) := by decide +kernel
theorem dL_law_2537 : decode cL_law 2537 = .ok (.laload, 1) := by decide +kernel
theorem dL_law_2538 : decode cL_law 2538 = .ok (.iload 6, 2) := by decide +kernel
theorem dL_law_2540 : decode cL_law 2540 = .ok (.i2l, 1) := by decide +kernel
theorem dL_law_2541 : decode cL_law 2541 = .ok (.lcmp, 1) := by decide +kernel
theorem dL_law_2542 : decode cL_law 2542 = .ok (.ifCond .eq 5, 3) := by decide +kernel
theorem dL_law_2547 : decode cL_law 2547 = .ok (.goto 549, 3) := by decide +kernel
theorem dL_law_2550 : decode cL_law 2550 = .ok (.aload_n 1, 1) := by decide +kernel
theorem dL_law_2551 : decode cL_law 2551 = .ok (.aload_n 0, 1) := by decide +kernel
theorem dL_law_2552 : decode cL_law 2552 = .ok (.iload 4, 2) := by decide +kernel
theorem dL_law_2554 : decode cL_law 2554 = .ok (.iconst 1, 1) := by decide +kernel
theorem dL_law_2555 : decode cL_law 2555 = .ok (.iadd, 1) := by decide +kernel
theorem dL_law_2556 : decode cL_law 2556 = .ok (.iaload, 1) := by decide +kernel
theorem dL_law_2557 : decode cL_law 2557 = .ok (.aload_n 0, 1) := by decide +kernel
theorem dL_law_2558 : decode cL_law 2558 = .ok (.iload 4, 2) := by decide +kernel
theorem dL_law_2560 : decode cL_law 2560 = .ok (.iconst 2, 1) := by decide +kernel
theorem dL_law_2561 : decode cL_law 2561 = .ok (.iadd, 1) := by decide +kernel
theorem dL_law_2562 : decode cL_law 2562 = .ok (.iaload, 1) := by decide +kernel
theorem dL_law_2563 : decode cL_law 2563 = .ok (.aload_n 3, 1) := by decide +kernel
theorem dL_law_2564 : decode cL_law 2564 = .ok (.invokestatic 337, 3) := by decide +kernel
theorem dL_law_2567 : decode cL_law 2567 = .ok (.istore 5, 2) := by decide +kernel
theorem dL_law_2569 : decode cL_law 2569 = .ok (.aload_n 2, 1) := by decide +kernel
theorem dL_law_2570 : decode cL_law 2570 = .ok (.aload_n 0, 1) := by decide +kernel
theorem dL_law_2571 : decode cL_law 2571 = .ok (.iload 4, 2) := by decide +kernel
theorem dL_law_2573 : decode cL_law 2573 = .ok (.iconst 1, 1) := by decide +kernel
theorem dL_law_2574 : decode cL_law 2574 = .ok (.iadd, 1) := by decide +kernel
theorem dL_law_2575 : decode cL_law 2575 = .ok (.iaload, 1) := by decide +kernel
theorem dL_law_2576 : decode cL_law 2576 = .ok (.aload_n 0, 1) := by decide +kernel
theorem dL_law_2577 : decode cL_law 2577 = .ok (.iload 4, 2) := by decide +kernel
theorem dL_law_2579 : decode cL_law 2579 = .ok (.iconst 2, 1) := by decide +kernel
theorem dL_law_2580 : decode cL_law 2580 = .ok (.iadd, 1) := by decide +kernel
theorem dL_law_2581 : decode cL_law 2581 = .ok (.iaload, 1) := by decide +kernel
theorem dL_law_2582 : decode cL_law 2582 = .ok (.invokevirtual 339, 3) := by decide +kernel
theorem dL_law_2585 : decode cL_law 2585 = .ok (.istore 6, 2) := by decide +kernel
theorem dL_law_2587 : decode cL_law 2587 = .ok (.aload_n 2, 1) := by decide +kernel
theorem dL_law_2588 : decode cL_law 2588 = .ok (.invokevirtual 180, 3) := by decide +kernel
theorem dL_law_2591 : decode cL_law 2591 = .ok (.iload 5, 2) := by decide +kernel
theorem dL_law_2593 : decode cL_law 2593 = .ok (.if_icmp .eq 5, 3) := by decide +kernel
theorem dL_law_2598 : decode cL_law 2598 = .ok (.iload 5, 2) := by decide +kernel
theorem dL_law_2600 : decode cL_law 2600 = .ok (.ifCond .ne 15, 3) := by decide +kernel
theorem dL_law_2603 : decode cL_law 2603 = .ok (.aload_n 3, 1) := by decide +kernel
theorem dL_law_2604 : decode cL_law 2604 = .ok (.iconst 0, 1) := by decide +kernel
theorem dL_law_2605 : decode cL_law 2605 = .ok (.laload, 1) := by decide +kernel
theorem dL_law_2606 : decode cL_law 2606 = .ok (.iload 6, 2) := by decide +kernel
theorem dL_law_2608 : decode cL_law 2608 = .ok (.i2l, 1) := by decide +kernel
theorem dL_law_2609 : decode cL_law 2609 = .ok (.lcmp, 1) := by decide +kernel
theorem dL_law_2610 : decode cL_law 2610 = .ok (.ifCond .eq 5, 3) := by decide +kernel
theorem dL_law_2615 : decode cL_law 2615 = .ok (.goto 481, 3) := by decide +kernel
theorem dL_law_2618 : decode cL_law 2618 = .ok (.aload_n 1, 1) := by decide +kernel
theorem dL_law_2619 : decode cL_law 2619 = .ok (.aload_n 0, 1) := by decide +kernel
theorem dL_law_2620 : decode cL_law 2620 = .ok (.iload 4, 2) := by decide +kernel
theorem dL_law_2622 : decode cL_law 2622 = .ok (.iconst 1, 1) := by decide +kernel
theorem dL_law_2623 : decode cL_law 2623 = .ok (.iadd, 1) := by decide +kernel
theorem dL_law_2624 : decode cL_law 2624 = .ok (.iaload, 1) := by decide +kernel
theorem dL_law_2625 : decode cL_law 2625 = .ok (.aload_n 0, 1) := by decide +kernel
theorem dL_law_2626 : decode cL_law 2626 = .ok (.iload 4, 2) := by decide +kernel
theorem dL_law_2628 : decode cL_law 2628 = .ok (.iconst 2, 1) := by decide +kernel
theorem dL_law_2629 : decode cL_law 2629 = .ok (.iadd, 1) := by decide +kernel
theorem dL_law_2630 : decode cL_law 2630 = .ok (.iaload, 1) := by decide +kernel
theorem dL_law_2631 : decode cL_law 2631 = .ok (.aload_n 3, 1) := by decide +kernel
theorem dL_law_2632 : decode cL_law 2632 = .ok (.invokestatic 340, 3) := by decide +kernel
theorem dL_law_2635 : decode cL_law 2635 = .ok (.istore 5, 2) := by decide +kernel
theorem dL_law_2637 : decode cL_law 2637 = .ok (.aload_n 2, 1) := by decide +kernel
theorem dL_law_2638 : decode cL_law 2638 = .ok (.aload_n 0, 1) := by decide +kernel
theorem dL_law_2639 : decode cL_law 2639 = .ok (.iload 4, 2) := by decide +kernel
theorem dL_law_2641 : decode cL_law 2641 = .ok (.iconst 1, 1) := by decide +kernel
theorem dL_law_2642 : decode cL_law 2642 = .ok (.iadd, 1) := by decide +kernel
theorem dL_law_2643 : decode cL_law 2643 = .ok (.iaload, 1) := by decide +kernel
theorem dL_law_2644 : decode cL_law 2644 = .ok (.aload_n 0, 1) := by decide +kernel
theorem dL_law_2645 : decode cL_law 2645 = .ok (.iload 4, 2) := by decide +kernel
theorem dL_law_2647 : decode cL_law 2647 = .ok (.iconst 2, 1) := by decide +kernel
theorem dL_law_2648 : decode cL_law 2648 = .ok (.iadd, 1) := by decide +kernel
theorem dL_law_2649 : decode cL_law 2649 = .ok (.iaload, 1) := by decide +kernel
theorem dL_law_2650 : decode cL_law 2650 = .ok (.invokevirtual 342, 3) := by decide +kernel
theorem dL_law_2653 : decode cL_law 2653 = .ok (.istore 6, 2) := by decide +kernel
theorem dL_law_2655 : decode cL_law 2655 = .ok (.aload_n 2, 1) := by decide +kernel
theorem dL_law_2656 : decode cL_law 2656 = .ok (.invokevirtual 180, 3) := by decide +kernel
theorem dL_law_2659 : decode cL_law 2659 = .ok (.iload 5, 2) := by decide +kernel
theorem dL_law_2661 : decode cL_law 2661 = .ok (.if_icmp .eq 5, 3) := by decide +kernel
theorem dL_law_2666 : decode cL_law 2666 = .ok (.iload 5, 2) := by decide +kernel
theorem dL_law_2668 : decode cL_law 2668 = .ok (.ifCond .ne 15, 3) := by decide +kernel
theorem dL_law_2671 : decode cL_law 2671 = .ok (.aload_n 3, 1) := by decide +kernel
theorem dL_law_2672 : decode cL_law 2672 = .ok (.iconst 0, 1) := by decide +kernel
theorem dL_law_2673 : decode cL_law 2673 = .ok (.laload, 1) := by decide +kernel
theorem dL_law_2674 : decode cL_law 2674 = .ok (.iload 6, 2) := by decide +kernel
theorem dL_law_2676 : decode cL_law 2676 = .ok (.i2l, 1) := by decide +kernel
theorem dL_law_2677 : decode cL_law 2677 = .ok (.lcmp, 1) := by decide +kernel
theorem dL_law_2678 : decode cL_law 2678 = .ok (.ifCond .eq 5, 3) := by decide +kernel
theorem dL_law_2683 : decode cL_law 2683 = .ok (.goto 413, 3) := by decide +kernel
theorem dL_law_2686 : decode cL_law 2686 = .ok (.aload_n 1, 1) := by decide +kernel
theorem dL_law_2687 : decode cL_law 2687 = .ok (.aload_n 0, 1) := by decide +kernel
theorem dL_law_2688 : decode cL_law 2688 = .ok (.iload 4, 2) := by decide +kernel
theorem dL_law_2690 : decode cL_law 2690 = .ok (.iconst 1, 1) := by decide +kernel
theorem dL_law_2691 : decode cL_law 2691 = .ok (.iadd, 1) := by decide +kernel
theorem dL_law_2692 : decode cL_law 2692 = .ok (.iaload, 1) := by decide +kernel
theorem dL_law_2693 : decode cL_law 2693 = .ok (.aload_n 0, 1) := by decide +kernel
theorem dL_law_2694 : decode cL_law 2694 = .ok (.iload 4, 2) := by decide +kernel
theorem dL_law_2696 : decode cL_law 2696 = .ok (.iconst 2, 1) := by decide +kernel
theorem dL_law_2697 : decode cL_law 2697 = .ok (.iadd, 1) := by decide +kernel
theorem dL_law_2698 : decode cL_law 2698 = .ok (.iaload, 1) := by decide +kernel
theorem dL_law_2699 : decode cL_law 2699 = .ok (.aload_n 3, 1) := by decide +kernel
theorem dL_law_2700 : decode cL_law 2700 = .ok (.invokestatic 343, 3) := by decide +kernel
theorem dL_law_2703 : decode cL_law 2703 = .ok (.istore 5, 2) := by decide +kernel
theorem dL_law_2705 : decode cL_law 2705 = .ok (.aload_n 2, 1) := by decide +kernel
theorem dL_law_2706 : decode cL_law 2706 = .ok (.aload_n 0, 1) := by decide +kernel
theorem dL_law_2707 : decode cL_law 2707 = .ok (.iload 4, 2) := by decide +kernel
theorem dL_law_2709 : decode cL_law 2709 = .ok (.iconst 1, 1) := by decide +kernel
theorem dL_law_2710 : decode cL_law 2710 = .ok (.iadd, 1) := by decide +kernel
theorem dL_law_2711 : decode cL_law 2711 = .ok (.iaload, 1) := by decide +kernel
theorem dL_law_2712 : decode cL_law 2712 = .ok (.aload_n 0, 1) := by decide +kernel
theorem dL_law_2713 : decode cL_law 2713 = .ok (.iload 4, 2) := by decide +kernel
theorem dL_law_2715 : decode cL_law 2715 = .ok (.iconst 2, 1) := by decide +kernel
theorem dL_law_2716 : decode cL_law 2716 = .ok (.iadd, 1) := by decide +kernel
theorem dL_law_2717 : decode cL_law 2717 = .ok (.iaload, 1) := by decide +kernel
theorem dL_law_2718 : decode cL_law 2718 = .ok (.invokevirtual 345, 3) := by decide +kernel
theorem dL_law_2721 : decode cL_law 2721 = .ok (.istore 6, 2) := by decide +kernel
theorem dL_law_2723 : decode cL_law 2723 = .ok (.aload_n 2, 1) := by decide +kernel
theorem dL_law_2724 : decode cL_law 2724 = .ok (.invokevirtual 180, 3) := by decide +kernel
theorem dL_law_2727 : decode cL_law 2727 = .ok (.iload 5, 2) := by decide +kernel
theorem dL_law_2729 : decode cL_law 2729 = .ok (.if_icmp .eq 5, 3) := by decide +kernel
theorem dL_law_2734 : decode cL_law 2734 = .ok (.iload 5, 2) := by decide +kernel
theorem dL_law_2736 : decode cL_law 2736 = .ok (.ifCond .ne 15, 3) := by decide +kernel
theorem dL_law_2739 : decode cL_law 2739 = .ok (.aload_n 3, 1) := by decide +kernel
theorem dL_law_2740 : decode cL_law 2740 = .ok (.iconst 0, 1) := by decide +kernel
theorem dL_law_2741 : decode cL_law 2741 = .ok (.laload, 1) := by decide +kernel
theorem dL_law_2742 : decode cL_law 2742 = .ok (.iload 6, 2) := by decide +kernel
theorem dL_law_2744 : decode cL_law 2744 = .ok (.i2l, 1) := by decide +kernel
theorem dL_law_2745 : decode cL_law 2745 = .ok (.lcmp, 1) := by decide +kernel
theorem dL_law_2746 : decode cL_law 2746 = .ok (.ifCond .eq 5, 3) := by decide +kernel
theorem dL_law_2751 : decode cL_law 2751 = .ok (.goto 345, 3) := by decide +kernel
theorem dL_law_2754 : decode cL_law 2754 = .ok (.aload_n 1, 1) := by decide +kernel
theorem dL_law_2755 : decode cL_law 2755 = .ok (.aload_n 0, 1) := by decide +kernel
theorem dL_law_2756 : decode cL_law 2756 = .ok (.iload 4, 2) := by decide +kernel
theorem dL_law_2758 : decode cL_law 2758 = .ok (.iconst 1, 1) := by decide +kernel
theorem dL_law_2759 : decode cL_law 2759 = .ok (.iadd, 1) := by decide +kernel
theorem dL_law_2760 : decode cL_law 2760 = .ok (.iaload, 1) := by decide +kernel
theorem dL_law_2761 : decode cL_law 2761 = .ok (.aload_n 3, 1) := by decide +kernel
theorem dL_law_2762 : decode cL_law 2762 = .ok (.invokestatic 346, 3) := by decide +kernel
theorem dL_law_2765 : decode cL_law 2765 = .ok (.istore 5, 2) := by decide +kernel
theorem dL_law_2767 : decode cL_law 2767 = .ok (.aload_n 2, 1) := by decide +kernel
theorem dL_law_2768 : decode cL_law 2768 = .ok (.aload_n 0, 1) := by decide +kernel
theorem dL_law_2769 : decode cL_law 2769 = .ok (.iload 4, 2) := by decide +kernel
theorem dL_law_2771 : decode cL_law 2771 = .ok (.iconst 1, 1) := by decide +kernel
theorem dL_law_2772 : decode cL_law 2772 = .ok (.iadd, 1) := by decide +kernel
theorem dL_law_2773 : decode cL_law 2773 = .ok (.iaload, 1) := by decide +kernel
theorem dL_law_2774 : decode cL_law 2774 = .ok (.invokevirtual 348, 3) := by decide +kernel
theorem dL_law_2777 : decode cL_law 2777 = .ok (.istore 6, 2) := by decide +kernel
theorem dL_law_2779 : decode cL_law 2779 = .ok (.aload_n 2, 1) := by decide +kernel
theorem dL_law_2780 : decode cL_law 2780 = .ok (.invokevirtual 180, 3) := by decide +kernel
theorem dL_law_2783 : decode cL_law 2783 = .ok (.iload 5, 2) := by decide +kernel
theorem dL_law_2785 : decode cL_law 2785 = .ok (.if_icmp .eq 5, 3) := by decide +kernel
theorem dL_law_2790 : decode cL_law 2790 = .ok (.iload 5, 2) := by decide +kernel
theorem dL_law_2792 : decode cL_law 2792 = .ok (.ifCond .ne 15, 3) := by decide +kernel
theorem dL_law_2795 : decode cL_law 2795 = .ok (.aload_n 3, 1) := by decide +kernel
theorem dL_law_2796 : decode cL_law 2796 = .ok (.iconst 0, 1) := by decide +kernel
theorem dL_law_2797 : decode cL_law 2797 = .ok (.laload, 1) := by decide +kernel
theorem dL_law_2798 : decode cL_law 2798 = .ok (.iload 6, 2) := by decide +kernel
theorem dL_law_2800 : decode cL_law 2800 = .ok (.i2l, 1) := by decide +kernel
theorem dL_law_2801 : decode cL_law 2801 = .ok (.lcmp, 1) := by decide +kernel
theorem dL_law_2802 : decode cL_law 2802 = .ok (.ifCond .eq 5, 3) := by decide +kernel
theorem dL_law_2807 : decode cL_law 2807 = .ok (.goto 289, 3) := by decide +kernel
theorem dL_law_2810 : decode cL_law 2810 = .ok (.aload_n 1, 1) := by decide +kernel
theorem dL_law_2811 : decode cL_law 2811 = .ok (.aload_n 0, 1) := by decide +kernel
theorem dL_law_2812 : decode cL_law 2812 = .ok (.iload 4, 2) := by decide +kernel
theorem dL_law_2814 : decode cL_law 2814 = .ok (.iconst 1, 1) := by decide +kernel
theorem dL_law_2815 : decode cL_law 2815 = .ok (.iadd, 1) := by decide +kernel
theorem dL_law_2816 : decode cL_law 2816 = .ok (.iaload, 1) := by decide +kernel
theorem dL_law_2817 : decode cL_law 2817 = .ok (.aload_n 0, 1) := by decide +kernel
theorem dL_law_2818 : decode cL_law 2818 = .ok (.iload 4, 2) := by decide +kernel
theorem dL_law_2820 : decode cL_law 2820 = .ok (.iconst 2, 1) := by decide +kernel
theorem dL_law_2821 : decode cL_law 2821 = .ok (.iadd, 1) := by decide +kernel
theorem dL_law_2822 : decode cL_law 2822 = .ok (.iaload, 1) := by decide +kernel
theorem dL_law_2823 : decode cL_law 2823 = .ok (.aload_n 3, 1) := by decide +kernel
theorem dL_law_2824 : decode cL_law 2824 = .ok (.invokestatic 349, 3) := by decide +kernel
theorem dL_law_2827 : decode cL_law 2827 = .ok (.istore 5, 2) := by decide +kernel
theorem dL_law_2829 : decode cL_law 2829 = .ok (.aload_n 2, 1) := by decide +kernel
theorem dL_law_2830 : decode cL_law 2830 = .ok (.aload_n 0, 1) := by decide +kernel
theorem dL_law_2831 : decode cL_law 2831 = .ok (.iload 4, 2) := by decide +kernel
theorem dL_law_2833 : decode cL_law 2833 = .ok (.iconst 1, 1) := by decide +kernel
theorem dL_law_2834 : decode cL_law 2834 = .ok (.iadd, 1) := by decide +kernel
theorem dL_law_2835 : decode cL_law 2835 = .ok (.iaload, 1) := by decide +kernel
theorem dL_law_2836 : decode cL_law 2836 = .ok (.aload_n 0, 1) := by decide +kernel
theorem dL_law_2837 : decode cL_law 2837 = .ok (.iload 4, 2) := by decide +kernel
theorem dL_law_2839 : decode cL_law 2839 = .ok (.iconst 2, 1) := by decide +kernel
theorem dL_law_2840 : decode cL_law 2840 = .ok (.iadd, 1) := by decide +kernel
theorem dL_law_2841 : decode cL_law 2841 = .ok (.iaload, 1) := by decide +kernel
theorem dL_law_2842 : decode cL_law 2842 = .ok (.invokevirtual 351, 3) := by decide +kernel
theorem dL_law_2845 : decode cL_law 2845 = .ok (.istore 6, 2) := by decide +kernel
theorem dL_law_2847 : decode cL_law 2847 = .ok (.aload_n 2, 1) := by decide +kernel
theorem dL_law_2848 : decode cL_law 2848 = .ok (.invokevirtual 180, 3) := by decide +kernel
theorem dL_law_2851 : decode cL_law 2851 = .ok (.iload 5, 2) := by decide +kernel
theorem dL_law_2853 : decode cL_law 2853 = .ok (.if_icmp .eq 5, 3) := by decide +kernel
theorem dL_law_2858 : decode cL_law 2858 = .ok (.iload 5, 2) := by decide +kernel
theorem dL_law_2860 : decode cL_law 2860 = .ok (.ifCond .ne 15, 3) := by decide +kernel
theorem dL_law_2863 : decode cL_law 2863 = .ok (.aload_n 3, 1) := by decide +kernel
theorem dL_law_2864 : decode cL_law 2864 = .ok (.iconst 0, 1) := by decide +kernel
theorem dL_law_2865 : decode cL_law 2865 = .ok (.laload, 1) := by decide +kernel
theorem dL_law_2866 : decode cL_law 2866 = .ok (.iload 6, 2) := by decide +kernel
theorem dL_law_2868 : decode cL_law 2868 = .ok (.i2l, 1) := by decide +kernel
theorem dL_law_2869 : decode cL_law 2869 = .ok (.lcmp, 1) := by decide +kernel
theorem dL_law_2870 : decode cL_law 2870 = .ok (.ifCond .eq 5, 3) := by decide +kernel
theorem dL_law_2875 : decode cL_law 2875 = .ok (.goto 221, 3) := by decide +kernel
theorem dL_law_2878 : decode cL_law 2878 = .ok (.aload_n 1, 1) := by decide +kernel
theorem dL_law_2879 : decode cL_law 2879 = .ok (.aload_n 0, 1) := by decide +kernel
theorem dL_law_2880 : decode cL_law 2880 = .ok (.iload 4, 2) := by decide +kernel
theorem dL_law_2882 : decode cL_law 2882 = .ok (.iconst 1, 1) := by decide +kernel
theorem dL_law_2883 : decode cL_law 2883 = .ok (.iadd, 1) := by decide +kernel
theorem dL_law_2884 : decode cL_law 2884 = .ok (.iaload, 1) := by decide +kernel
theorem dL_law_2885 : decode cL_law 2885 = .ok (.aload_n 0, 1) := by decide +kernel
theorem dL_law_2886 : decode cL_law 2886 = .ok (.iload 4, 2) := by decide +kernel
theorem dL_law_2888 : decode cL_law 2888 = .ok (.iconst 2, 1) := by decide +kernel
theorem dL_law_2889 : decode cL_law 2889 = .ok (.iadd, 1) := by decide +kernel
theorem dL_law_2890 : decode cL_law 2890 = .ok (.iaload, 1) := by decide +kernel
theorem dL_law_2891 : decode cL_law 2891 = .ok (.aload_n 0, 1) := by decide +kernel
theorem dL_law_2892 : decode cL_law 2892 = .ok (.iload 4, 2) := by decide +kernel
theorem dL_law_2894 : decode cL_law 2894 = .ok (.iconst 3, 1) := by decide +kernel
theorem dL_law_2895 : decode cL_law 2895 = .ok (.iadd, 1) := by decide +kernel
theorem dL_law_2896 : decode cL_law 2896 = .ok (.iaload, 1) := by decide +kernel
theorem dL_law_2897 : decode cL_law 2897 = .ok (.aload_n 3, 1) := by decide +kernel
theorem dL_law_2898 : decode cL_law 2898 = .ok (.invokestatic 352, 3) := by decide +kernel
theorem dL_law_2901 : decode cL_law 2901 = .ok (.istore 5, 2) := by decide +kernel
theorem dL_law_2903 : decode cL_law 2903 = .ok (.aload_n 2, 1) := by decide +kernel
theorem dL_law_2904 : decode cL_law 2904 = .ok (.aload_n 0, 1) := by decide +kernel
theorem dL_law_2905 : decode cL_law 2905 = .ok (.iload 4, 2) := by decide +kernel
theorem dL_law_2907 : decode cL_law 2907 = .ok (.iconst 1, 1) := by decide +kernel
theorem dL_law_2908 : decode cL_law 2908 = .ok (.iadd, 1) := by decide +kernel
theorem dL_law_2909 : decode cL_law 2909 = .ok (.iaload, 1) := by decide +kernel
theorem dL_law_2910 : decode cL_law 2910 = .ok (.aload_n 0, 1) := by decide +kernel
theorem dL_law_2911 : decode cL_law 2911 = .ok (.iload 4, 2) := by decide +kernel
theorem dL_law_2913 : decode cL_law 2913 = .ok (.iconst 2, 1) := by decide +kernel
theorem dL_law_2914 : decode cL_law 2914 = .ok (.iadd, 1) := by decide +kernel
theorem dL_law_2915 : decode cL_law 2915 = .ok (.iaload, 1) := by decide +kernel
theorem dL_law_2916 : decode cL_law 2916 = .ok (.aload_n 0, 1) := by decide +kernel
theorem dL_law_2917 : decode cL_law 2917 = .ok (.iload 4, 2) := by decide +kernel
theorem dL_law_2919 : decode cL_law 2919 = .ok (.iconst 3, 1) := by decide +kernel
theorem dL_law_2920 : decode cL_law 2920 = .ok (.iadd, 1) := by decide +kernel
theorem dL_law_2921 : decode cL_law 2921 = .ok (.iaload, 1) := by decide +kernel
theorem dL_law_2922 : decode cL_law 2922 = .ok (.invokevirtual 355, 3) := by decide +kernel
theorem dL_law_2925 : decode cL_law 2925 = .ok (.istore 6, 2) := by decide +kernel
theorem dL_law_2927 : decode cL_law 2927 = .ok (.aload_n 2, 1) := by decide +kernel
theorem dL_law_2928 : decode cL_law 2928 = .ok (.invokevirtual 180, 3) := by decide +kernel
theorem dL_law_2931 : decode cL_law 2931 = .ok (.iload 5, 2) := by decide +kernel
theorem dL_law_2933 : decode cL_law 2933 = .ok (.if_icmp .eq 5, 3) := by decide +kernel
theorem dL_law_2938 : decode cL_law 2938 = .ok (.iload 5, 2) := by decide +kernel
theorem dL_law_2940 : decode cL_law 2940 = .ok (.ifCond .ne 15, 3) := by decide +kernel
theorem dL_law_2943 : decode cL_law 2943 = .ok (.aload_n 3, 1) := by decide +kernel
theorem dL_law_2944 : decode cL_law 2944 = .ok (.iconst 0, 1) := by decide +kernel
theorem dL_law_2945 : decode cL_law 2945 = .ok (.laload, 1) := by decide +kernel
theorem dL_law_2946 : decode cL_law 2946 = .ok (.iload 6, 2) := by decide +kernel
theorem dL_law_2948 : decode cL_law 2948 = .ok (.i2l, 1) := by decide +kernel
theorem dL_law_2949 : decode cL_law 2949 = .ok (.lcmp, 1) := by decide +kernel
theorem dL_law_2950 : decode cL_law 2950 = .ok (.ifCond .eq 5, 3) := by decide +kernel
theorem dL_law_2955 : decode cL_law 2955 = .ok (.goto 141, 3) := by decide +kernel
theorem dL_law_2958 : decode cL_law 2958 = .ok (.aload_n 1, 1) := by decide +kernel
theorem dL_law_2959 : decode cL_law 2959 = .ok (.aload_n 0, 1) := by decide +kernel
theorem dL_law_2960 : decode cL_law 2960 = .ok (.iload 4, 2) := by decide +kernel
theorem dL_law_2962 : decode cL_law 2962 = .ok (.iconst 1, 1) := by decide +kernel
theorem dL_law_2963 : decode cL_law 2963 = .ok (.iadd, 1) := by decide +kernel
theorem dL_law_2964 : decode cL_law 2964 = .ok (.iaload, 1) := by decide +kernel
theorem dL_law_2965 : decode cL_law 2965 = .ok (.aload_n 3, 1) := by decide +kernel
theorem dL_law_2966 : decode cL_law 2966 = .ok (.invokestatic 356, 3) := by decide +kernel
theorem dL_law_2969 : decode cL_law 2969 = .ok (.istore 5, 2) := by decide +kernel
theorem dL_law_2971 : decode cL_law 2971 = .ok (.aload_n 2, 1) := by decide +kernel
theorem dL_law_2972 : decode cL_law 2972 = .ok (.aload_n 0, 1) := by decide +kernel
theorem dL_law_2973 : decode cL_law 2973 = .ok (.iload 4, 2) := by decide +kernel
theorem dL_law_2975 : decode cL_law 2975 = .ok (.iconst 1, 1) := by decide +kernel
theorem dL_law_2976 : decode cL_law 2976 = .ok (.iadd, 1) := by decide +kernel
theorem dL_law_2977 : decode cL_law 2977 = .ok (.iaload, 1) := by decide +kernel
theorem dL_law_2978 : decode cL_law 2978 = .ok (.invokevirtual 358, 3) := by decide +kernel
theorem dL_law_2981 : decode cL_law 2981 = .ok (.istore 6, 2) := by decide +kernel
theorem dL_law_2983 : decode cL_law 2983 = .ok (.aload_n 2, 1) := by decide +kernel
theorem dL_law_2984 : decode cL_law 2984 = .ok (.invokevirtual 180, 3) := by decide +kernel
theorem dL_law_2987 : decode cL_law 2987 = .ok (.iload 5, 2) := by decide +kernel
theorem dL_law_2989 : decode cL_law 2989 = .ok (.if_icmp .eq 5, 3) := by decide +kernel
theorem dL_law_2994 : decode cL_law 2994 = .ok (.iload 5, 2) := by decide +kernel
theorem dL_law_2996 : decode cL_law 2996 = .ok (.ifCond .ne 15, 3) := by decide +kernel
theorem dL_law_2999 : decode cL_law 2999 = .ok (.aload_n 3, 1) := by decide +kernel
theorem dL_law_3000 : decode cL_law 3000 = .ok (.iconst 0, 1) := by decide +kernel
theorem dL_law_3001 : decode cL_law 3001 = .ok (.laload, 1) := by decide +kernel
theorem dL_law_3002 : decode cL_law 3002 = .ok (.iload 6, 2) := by decide +kernel
theorem dL_law_3004 : decode cL_law 3004 = .ok (.i2l, 1) := by decide +kernel
theorem dL_law_3005 : decode cL_law 3005 = .ok (.lcmp, 1) := by decide +kernel
theorem dL_law_3006 : decode cL_law 3006 = .ok (.ifCond .eq 5, 3) := by decide +kernel
theorem dL_law_3011 : decode cL_law 3011 = .ok (.goto 85, 3) := by decide +kernel
theorem dL_law_3014 : decode cL_law 3014 = .ok (.aload_n 1, 1) := by decide +kernel
theorem dL_law_3015 : decode cL_law 3015 = .ok (.invokevirtual 359, 3) := by decide +kernel
theorem dL_law_3018 : decode cL_law 3018 = .ok (.aload_n 2, 1) := by decide +kernel
theorem dL_law_3019 : decode cL_law 3019 = .ok (.invokevirtual 362, 3) := by decide +kernel
theorem dL_law_3022 : decode cL_law 3022 = .ok (.if_icmp .eq 74, 3) := by decide +kernel
theorem dL_law_3027 : decode cL_law 3027 = .ok (.aload_n 1, 1) := by decide +kernel
theorem dL_law_3028 : decode cL_law 3028 = .ok (.invokevirtual 363, 3) := by decide +kernel
theorem dL_law_3031 : decode cL_law 3031 = .ok (.aload_n 2, 1) := by decide +kernel
theorem dL_law_3032 : decode cL_law 3032 = .ok (.invokevirtual 366, 3) := by decide +kernel
theorem dL_law_3035 : decode cL_law 3035 = .ok (.if_icmp .eq 61, 3) := by decide +kernel
theorem dL_law_3040 : decode cL_law 3040 = .ok (.aload_n 1, 1) := by decide +kernel
theorem dL_law_3041 : decode cL_law 3041 = .ok (.aload_n 0, 1) := by decide +kernel
theorem dL_law_3042 : decode cL_law 3042 = .ok (.iload 4, 2) := by decide +kernel
theorem dL_law_3044 : decode cL_law 3044 = .ok (.iconst 1, 1) := by decide +kernel
theorem dL_law_3045 : decode cL_law 3045 = .ok (.iadd, 1) := by decide +kernel
theorem dL_law_3046 : decode cL_law 3046 = .ok (.iaload, 1) := by decide +kernel
theorem dL_law_3047 : decode cL_law 3047 = .ok (.aload_n 3, 1) := by decide +kernel
theorem dL_law_3048 : decode cL_law 3048 = .ok (.invokestatic 367, 3) := by decide +kernel
theorem dL_law_3051 : decode cL_law 3051 = .ok (.istore 5, 2) := by decide +kernel
theorem dL_law_3053 : decode cL_law 3053 = .ok (.aload_n 2, 1) := by decide +kernel
theorem dL_law_3054 : decode cL_law 3054 = .ok (.aload_n 0, 1) := by decide +kernel
theorem dL_law_3055 : decode cL_law 3055 = .ok (.iload 4, 2) := by decide +kernel
theorem dL_law_3057 : decode cL_law 3057 = .ok (.iconst 1, 1) := by decide +kernel
theorem dL_law_3058 : decode cL_law 3058 = .ok (.iadd, 1) := by decide +kernel
theorem dL_law_3059 : decode cL_law 3059 = .ok (.iaload, 1) := by decide +kernel
theorem dL_law_3060 : decode cL_law 3060 = .ok (.invokevirtual 369, 3) := by decide +kernel
theorem dL_law_3063 : decode cL_law 3063 = .ok (.istore 6, 2) := by decide +kernel
theorem dL_law_3065 : decode cL_law 3065 = .ok (.aload_n 2, 1) := by decide +kernel
theorem dL_law_3066 : decode cL_law 3066 = .ok (.invokevirtual 180, 3) := by decide +kernel
theorem dL_law_3069 : decode cL_law 3069 = .ok (.iload 5, 2) := by decide +kernel
theorem dL_law_3071 : decode cL_law 3071 = .ok (.if_icmp .eq 5, 3) := by decide +kernel
theorem dL_law_3076 : decode cL_law 3076 = .ok (.iload 5, 2) := by decide +kernel
theorem dL_law_3078 : decode cL_law 3078 = .ok (.ifCond .ne 15, 3) := by decide +kernel
theorem dL_law_3081 : decode cL_law 3081 = .ok (.aload_n 3, 1) := by decide +kernel
theorem dL_law_3082 : decode cL_law 3082 = .ok (.iconst 0, 1) := by decide +kernel
theorem dL_law_3083 : decode cL_law 3083 = .ok (.laload, 1) := by decide +kernel
theorem dL_law_3084 : decode cL_law 3084 = .ok (.iload 6, 2) := by decide +kernel
theorem dL_law_3086 : decode cL_law 3086 = .ok (.i2l, 1) := by decide +kernel
theorem dL_law_3087 : decode cL_law 3087 = .ok (.lcmp, 1) := by decide +kernel
theorem dL_law_3088 : decode cL_law 3088 = .ok (.ifCond .eq 5, 3) := by decide +kernel
theorem dL_law_3093 : decode cL_law 3093 = .ok (.goto 3, 3) := by decide +kernel
theorem dL_law_3096 : decode cL_law 3096 = .ok (.iinc 4 5, 3) := by decide +kernel
theorem dL_law_3099 : decode cL_law 3099 = .ok (.goto (-3076), 3) := by decide +kernel
theorem dL_law_3102 : decode cL_law 3102 = .ok (.iconst 1, 1) := by decide +kernel
theorem dL_law_3103 : decode cL_law 3103 = .ok (.ireturn, 1) := by decide +kernel
