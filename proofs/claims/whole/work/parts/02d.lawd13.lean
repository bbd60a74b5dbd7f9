theorem dL_law_2535 : decode cL_law 2535 = .ok (.iadd, 1) := by decide +kernel
theorem dL_law_2536 : decode cL_law 2536 = .ok (.iaload, 1) := by decide +kernel
theorem dL_law_2537 : decode cL_law 2537 = .ok (.invokevirtual 332, 3) := by decide +kernel
theorem dL_law_2540 : decode cL_law 2540 = .ok (.istore 7, 2) := by decide +kernel
theorem dL_law_2542 : decode cL_law 2542 = .ok (.aload_n 2, 1) := by decide +kernel
theorem dL_law_2543 : decode cL_law 2543 = .ok (.invokevirtual 165, 3) := by decide +kernel
theorem dL_law_2546 : decode cL_law 2546 = .ok (.iload 6, 2) := by decide +kernel
theorem dL_law_2548 : decode cL_law 2548 = .ok (.if_icmp .eq 5, 3) := by decide +kernel
theorem dL_law_2551 : decode cL_law 2551 = .ok (.iconst 0, 1) := by decide +kernel
theorem dL_law_2552 : decode cL_law 2552 = .ok (.ireturn, 1) := by decide +kernel
theorem dL_law_2553 : decode cL_law 2553 = .ok (.iload 6, 2) := by decide +kernel
theorem dL_law_2555 : decode cL_law 2555 = .ok (.ifCond .ne 15, 3) := by decide +kernel
theorem dL_law_2558 : decode cL_law 2558 = .ok (.aload_n 3, 1) := by decide +kernel
theorem dL_law_2559 : decode cL_law 2559 = .ok (.iconst 0, 1) := by decide +kernel
theorem dL_law_2560 : decode cL_law 2560 = .ok (.laload, 1) := by decide +kernel
theorem dL_law_2561 : decode cL_law 2561 = .ok (.iload 7, 2) := by decide +kernel
theorem dL_law_2563 : decode cL_law 2563 = .ok (.i2l, 1) := by decide +kernel
theorem dL_law_2564 : decode cL_law 2564 = .ok (.lcmp, 1) := by decide +kernel
theorem dL_law_2565 : decode cL_law 2565 = .ok (.ifCond .eq 5, 3) := by decide +kernel
theorem dL_law_2568 : decode cL_law 2568 = .ok (.iconst 0, 1) := by decide +kernel
theorem dL_law_2569 : decode cL_law 2569 = .ok (.ireturn, 1) := by decide +kernel
theorem dL_law_2570 : decode cL_law 2570 = .ok (.goto 294, 3) := by decide +kernel
theorem dL_law_2573 : decode cL_law 2573 = .ok (.aload_n 1, 1) := by decide +kernel
theorem dL_law_2574 : decode cL_law 2574 = .ok (.aload_n 0, 1) := by decide +kernel
theorem dL_law_2575 : decode cL_law 2575 = .ok (.iload 5, 2) := by decide +kernel
theorem dL_law_2577 : decode cL_law 2577 = .ok (.iconst 1, 1) := by decide +kernel
theorem dL_law_2578 : decode cL_law 2578 = .ok (.iadd, 1) := by decide +kernel
theorem dL_law_2579 : decode cL_law 2579 = .ok (.iaload, 1) := by decide +kernel
theorem dL_law_2580 : decode cL_law 2580 = .ok (.i2c, 1) := by decide +kernel
theorem dL_law_2581 : decode cL_law 2581 = .ok (.aload_n 3, 1) := by decide +kernel
theorem dL_law_2582 : decode cL_law 2582 = .ok (.invokestatic 333, 3) := by decide +kernel
theorem dL_law_2585 : decode cL_law 2585 = .ok (.istore 6, 2) := by decide +kernel
theorem dL_law_2587 : decode cL_law 2587 = .ok (.aload_n 2, 1) := by decide +kernel
theorem dL_law_2588 : decode cL_law 2588 = .ok (.aload_n 0, 1) := by decide +kernel
theorem dL_law_2589 : decode cL_law 2589 = .ok (.iload 5, 2) := by decide +kernel
theorem dL_law_2591 : decode cL_law 2591 = .ok (.iconst 1, 1) := by decide +kernel
theorem dL_law_2592 : decode cL_law 2592 = .ok (.iadd, 1) := by decide +kernel
theorem dL_law_2593 : decode cL_law 2593 = .ok (.iaload, 1) := by decide +kernel
theorem dL_law_2594 : decode cL_law 2594 = .ok (.i2c, 1) := by decide +kernel
theorem dL_law_2595 : decode cL_law 2595 = .ok (.invokevirtual 336, 3) := by decide +kernel
theorem dL_law_2598 : decode cL_law 2598 = .ok (.istore 7, 2) := by decide +kernel
theorem dL_law_2600 : decode cL_law 2600 = .ok (.aload_n 2, 1) := by decide +kernel
theorem dL_law_2601 : decode cL_law 2601 = .ok (.invokevirtual 165, 3) := by decide +kernel
theorem dL_law_2604 : decode cL_law 2604 = .ok (.iload 6, 2) := by decide +kernel
theorem dL_law_2606 : decode cL_law 2606 = .ok (.if_icmp .eq 5, 3) := by decide +kernel
theorem dL_law_2609 : decode cL_law 2609 = .ok (.iconst 0, 1) := by decide +kernel
theorem dL_law_2610 : decode cL_law 2610 = .ok (.ireturn, 1) := by decide +kernel
theorem dL_law_2611 : decode cL_law 2611 = .ok (.iload 6, 2) := by decide +kernel
theorem dL_law_2613 : decode cL_law 2613 = .ok (.ifCond .ne 15, 3) := by decide +kernel
theorem dL_law_2616 : decode cL_law 2616 = .ok (.aload_n 3, 1) := by decide +kernel
theorem dL_law_2617 : decode cL_law 2617 = .ok (.iconst 0, 1) := by decide +kernel
theorem dL_law_2618 : decode cL_law 2618 = .ok (.laload, 1) := by decide +kernel
theorem dL_law_2619 : decode cL_law 2619 = .ok (.iload 7, 2) := by decide +kernel
theorem dL_law_2621 : decode cL_law 2621 = .ok (.i2l, 1) := by decide +kernel
theorem dL_law_2622 : decode cL_law 2622 = .ok (.lcmp, 1) := by decide +kernel
theorem dL_law_2623 : decode cL_law 2623 = .ok (.ifCond .eq 5, 3) := by decide +kernel
theorem dL_law_2626 : decode cL_law 2626 = .ok (.iconst 0, 1) := by decide +kernel
theorem dL_law_2627 : decode cL_law 2627 = .ok (.ireturn, 1) := by decide +kernel
theorem dL_law_2628 : decode cL_law 2628 = .ok (.goto 236, 3) := by decide +kernel
theorem dL_law_2631 : decode cL_law 2631 = .ok (.aload_n 1, 1) := by decide +kernel
theorem dL_law_2632 : decode cL_law 2632 = .ok (.aload_n 3, 1) := by decide +kernel
theorem dL_law_2633 : decode cL_law 2633 = .ok (.invokestatic 337, 3) := by decide +kernel
theorem dL_law_2636 : decode cL_law 2636 = .ok (.istore 6, 2) := by decide +kernel
theorem dL_law_2638 : decode cL_law 2638 = .ok (.aload_n 2, 1) := by decide +kernel
theorem dL_law_2639 : decode cL_law 2639 = .ok (.invokevirtual 339, 3) := by decide +kernel
theorem dL_law_2642 : decode cL_law 2642 = .ok (.istore 7, 2) := by decide +kernel
theorem dL_law_2644 : decode cL_law 2644 = .ok (.aload_n 2, 1) := by decide +kernel
theorem dL_law_2645 : decode cL_law 2645 = .ok (.invokevirtual 165, 3) := by decide +kernel
theorem dL_law_2648 : decode cL_law 2648 = .ok (.iload 6, 2) := by decide +kernel
theorem dL_law_2650 : decode cL_law 2650 = .ok (.if_icmp .eq 5, 3) := by decide +kernel
theorem dL_law_2653 : decode cL_law 2653 = .ok (.iconst 0, 1) := by decide +kernel
theorem dL_law_2654 : decode cL_law 2654 = .ok (.ireturn, 1) := by decide +kernel
theorem dL_law_2655 : decode cL_law 2655 = .ok (.iload 6, 2) := by decide +kernel
theorem dL_law_2657 : decode cL_law 2657 = .ok (.ifCond .ne 15, 3) := by decide +kernel
theorem dL_law_2660 : decode cL_law 2660 = .ok (.aload_n 3, 1) := by decide +kernel
theorem dL_law_2661 : decode cL_law 2661 = .ok (.iconst 0, 1) := by decide +kernel
theorem dL_law_2662 : decode cL_law 2662 = .ok (.laload, 1) := by decide +kernel
theorem dL_law_2663 : decode cL_law 2663 = .ok (.iload 7, 2) := by decide +kernel
theorem dL_law_2665 : decode cL_law 2665 = .ok (.i2l, 1) := by decide +kernel
theorem dL_law_2666 : decode cL_law 2666 = .ok (.lcmp, 1) := by decide +kernel
theorem dL_law_2667 : decode cL_law 2667 = .ok (.ifCond .eq 5, 3) := by decide +kernel
theorem dL_law_2670 : decode cL_law 2670 = .ok (.iconst 0, 1) := by decide +kernel
theorem dL_law_2671 : decode cL_law 2671 = .ok (.ireturn, 1) := by decide +kernel
theorem dL_law_2672 : decode cL_law 2672 = .ok (.goto 192, 3) := by decide +kernel
theorem dL_law_2675 : decode cL_law 2675 = .ok (.aload_n 1, 1) := by decide +kernel
theorem dL_law_2676 : decode cL_law 2676 = .ok (.aload_n 3, 1) := by decide +kernel
theorem dL_law_2677 : decode cL_law 2677 = .ok (.invokestatic 340, 3) := by decide +kernel
theorem dL_law_2680 : decode cL_law 2680 = .ok (.istore 6, 2) := by decide +kernel
theorem dL_law_2682 : decode cL_law 2682 = .ok (.aload_n 2, 1) := by decide +kernel
theorem dL_law_2683 : decode cL_law 2683 = .ok (.invokevirtual 342, 3) := by decide +kernel
theorem dL_law_2686 : decode cL_law 2686 = .ok (.istore 7, 2) := by decide +kernel
theorem dL_law_2688 : decode cL_law 2688 = .ok (.aload_n 2, 1) := by decide +kernel
theorem dL_law_2689 : decode cL_law 2689 = .ok (.invokevirtual 165, 3) := by decide +kernel
theorem dL_law_2692 : decode cL_law 2692 = .ok (.iload 6, 2) := by decide +kernel
theorem dL_law_2694 : decode cL_law 2694 = .ok (.if_icmp .eq 5, 3) := by decide +kernel
theorem dL_law_2697 : decode cL_law 2697 = .ok (.iconst 0, 1) := by decide +kernel
theorem dL_law_2698 : decode cL_law 2698 = .ok (.ireturn, 1) := by decide +kernel
theorem dL_law_2699 : decode cL_law 2699 = .ok (.iload 6, 2) := by decide +kernel
theorem dL_law_2701 : decode cL_law 2701 = .ok (.ifCond .ne 15, 3) := by decide +kernel
theorem dL_law_2704 : decode cL_law 2704 = .ok (.aload_n 3, 1) := by decide +kernel
theorem dL_law_2705 : decode cL_law 2705 = .ok (.iconst 0, 1) := by decide +kernel
theorem dL_law_2706 : decode cL_law 2706 = .ok (.laload, 1) := by decide +kernel
theorem dL_law_2707 : decode cL_law 2707 = .ok (.iload 7, 2) := by decide +kernel
theorem dL_law_2709 : decode cL_law 2709 = .ok (.i2l, 1) := by decide +kernel
theorem dL_law_2710 : decode cL_law 2710 = .ok (.lcmp, 1) := by decide +kernel
theorem dL_law_2711 : decode cL_law 2711 = .ok (.ifCond .eq 5, 3) := by decide +kernel
theorem dL_law_2714 : decode cL_law 2714 = .ok (.iconst 0, 1) := by decide +kernel
theorem dL_law_2715 : decode cL_law 2715 = .ok (.ireturn, 1) := by decide +kernel
theorem dL_law_2716 : decode cL_law 2716 = .ok (.goto 148, 3) := by decide +kernel
theorem dL_law_2719 : decode cL_law 2719 = .ok (.aload_n 1, 1) := by decide +kernel
