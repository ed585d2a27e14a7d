theorem dL_law_2481 : decode cL_law 2481 = .ok (.iload 5, 2) := by decide +kernel
theorem dL_law_2483 : decode cL_law 2483 = .ok (.iconst 1, 1) := by decide +kernel
theorem dL_law_2484 : decode cL_law 2484 = .ok (.iadd, 1) := by decide +kernel
theorem dL_law_2485 : decode cL_law 2485 = .ok (.iaload, 1) := by decide +kernel
theorem dL_law_2486 : decode cL_law 2486 = .ok (.invokevirtual 275, 3) := by decide +kernel
theorem dL_law_2489 : decode cL_law 2489 = .ok (.istore 7, 2) := by decide +kernel
theorem dL_law_2491 : decode cL_law 2491 = .ok (.aload_n 2, 1) := by decide +kernel
theorem dL_law_2492 : decode cL_law 2492 = .ok (.invokevirtual 149, 3) := by decide +kernel
theorem dL_law_2495 : decode cL_law 2495 = .ok (.iload 6, 2) := by decide +kernel
theorem dL_law_2497 : decode cL_law 2497 = .ok (.if_icmp .eq 5, 3) := by decide +kernel
theorem dL_law_2500 : decode cL_law 2500 = .ok (.iconst 0, 1) := by decide +kernel
theorem dL_law_2501 : decode cL_law 2501 = .ok (.ireturn, 1) := by decide +kernel
theorem dL_law_2502 : decode cL_law 2502 = .ok (.iload 6, 2) := by decide +kernel
theorem dL_law_2504 : decode cL_law 2504 = .ok (.ifCond .ne 15, 3) := by decide +kernel
theorem dL_law_2507 : decode cL_law 2507 = .ok (.aload_n 3, 1) := by decide +kernel
theorem dL_law_2508 : decode cL_law 2508 = .ok (.iconst 0, 1) := by decide +kernel
theorem dL_law_2509 : decode cL_law 2509 = .ok (.laload, 1) := by decide +kernel
theorem dL_law_2510 : decode cL_law 2510 = .ok (.iload 7, 2) := by decide +kernel
theorem dL_law_2512 : decode cL_law 2512 = .ok (.i2l, 1) := by decide +kernel
theorem dL_law_2513 : decode cL_law 2513 = .ok (.lcmp, 1) := by decide +kernel
theorem dL_law_2514 : decode cL_law 2514 = .ok (.ifCond .eq 5, 3) := by decide +kernel
theorem dL_law_2517 : decode cL_law 2517 = .ok (.iconst 0, 1) := by decide +kernel
theorem dL_law_2518 : decode cL_law 2518 = .ok (.ireturn, 1) := by decide +kernel
theorem dL_law_2519 : decode cL_law 2519 = .ok (.goto 712, 3) := by decide +kernel
theorem dL_law_2522 : decode cL_law 2522 = .ok (.aload_n 1, 1) := by decide +kernel
theorem dL_law_2523 : decode cL_law 2523 = .ok (.aload_n 0, 1) := by decide +kernel
theorem dL_law_2524 : decode cL_law 2524 = .ok (.iload 5, 2) := by decide +kernel
theorem dL_law_2526 : decode cL_law 2526 = .ok (.iconst 1, 1) := by decide +kernel
theorem dL_law_2527 : decode cL_law 2527 = .ok (.iadd, 1) := by decide +kernel
theorem dL_law_2528 : decode cL_law 2528 = .ok (.iaload, 1) := by decide +kernel
theorem dL_law_2529 : decode cL_law 2529 = .ok (.aload_n 0, 1) := by decide +kernel
theorem dL_law_2530 : decode cL_law 2530 = .ok (.iload 5, 2) := by decide +kernel
theorem dL_law_2532 : decode cL_law 2532 = .ok (.iconst 2, 1) := by decide +kernel
theorem dL_law_2533 : decode cL_law 2533 = .ok (.iadd, 1) := by decide +kernel
theorem dL_law_2534 : decode cL_law 2534 = .ok (.iaload, 1) := by decide +kernel
theorem dL_law_2535 : decode cL_law 2535 = .ok (.aload_n 3, 1) := by decide +kernel
theorem dL_law_2536 : decode cL_law 2536 = .ok (.invokestatic 276, 3) := by decide +kernel
theorem dL_law_2539 : decode cL_law 2539 = .ok (.istore 6, 2) := by decide +kernel
theorem dL_law_2541 : decode cL_law 2541 = .ok (.aload_n 2, 1) := by decide +kernel
theorem dL_law_2542 : decode cL_law 2542 = .ok (.aload_n 0, 1) := by decide +kernel
theorem dL_law_2543 : decode cL_law 2543 = .ok (.iload 5, 2) := by decide +kernel
theorem dL_law_2545 : decode cL_law 2545 = .ok (.iconst 1, 1) := by decide +kernel
theorem dL_law_2546 : decode cL_law 2546 = .ok (.iadd, 1) := by decide +kernel
theorem dL_law_2547 : decode cL_law 2547 = .ok (.iaload, 1) := by decide +kernel
theorem dL_law_2548 : decode cL_law 2548 = .ok (.aload_n 0, 1) := by decide +kernel
theorem dL_law_2549 : decode cL_law 2549 = .ok (.iload 5, 2) := by decide +kernel
theorem dL_law_2551 : decode cL_law 2551 = .ok (.iconst 2, 1) := by decide +kernel
theorem dL_law_2552 : decode cL_law 2552 = .ok (.iadd, 1) := by decide +kernel
theorem dL_law_2553 : decode cL_law 2553 = .ok (.iaload, 1) := by decide +kernel
theorem dL_law_2554 : decode cL_law 2554 = .ok (.invokevirtual 278, 3) := by decide +kernel
theorem dL_law_2557 : decode cL_law 2557 = .ok (.istore 7, 2) := by decide +kernel
theorem dL_law_2559 : decode cL_law 2559 = .ok (.aload_n 2, 1) := by decide +kernel
theorem dL_law_2560 : decode cL_law 2560 = .ok (.invokevirtual 149, 3) := by decide +kernel
theorem dL_law_2563 : decode cL_law 2563 = .ok (.iload 6, 2) := by decide +kernel
theorem dL_law_2565 : decode cL_law 2565 = .ok (.if_icmp .eq 5, 3) := by decide +kernel
theorem dL_law_2568 : decode cL_law 2568 = .ok (.iconst 0, 1) := by decide +kernel
theorem dL_law_2569 : decode cL_law 2569 = .ok (.ireturn, 1) := by decide +kernel
theorem dL_law_2570 : decode cL_law 2570 = .ok (.iload 6, 2) := by decide +kernel
theorem dL_law_2572 : decode cL_law 2572 = .ok (.ifCond .ne 15, 3) := by decide +kernel
theorem dL_law_2575 : decode cL_law 2575 = .ok (.aload_n 3, 1) := by decide +kernel
theorem dL_law_2576 : decode cL_law 2576 = .ok (.iconst 0, 1) := by decide +kernel
theorem dL_law_2577 : decode cL_law 2577 = .ok (.laload, 1) := by decide +kernel
theorem dL_law_2578 : decode cL_law 2578 = .ok (.iload 7, 2) := by decide +kernel
theorem dL_law_2580 : decode cL_law 2580 = .ok (.i2l, 1) := by decide +kernel
theorem dL_law_2581 : decode cL_law 2581 = .ok (.lcmp, 1) := by decide +kernel
theorem dL_law_2582 : decode cL_law 2582 = .ok (.ifCond .eq 5, 3) := by decide +kernel
theorem dL_law_2585 : decode cL_law 2585 = .ok (.iconst 0, 1) := by decide +kernel
theorem dL_law_2586 : decode cL_law 2586 = .ok (.ireturn, 1) := by decide +kernel
theorem dL_law_2587 : decode cL_law 2587 = .ok (.goto 644, 3) := by decide +kernel
theorem dL_law_2590 : decode cL_law 2590 = .ok (.aload_n 1, 1) := by decide +kernel
theorem dL_law_2591 : decode cL_law 2591 = .ok (.aload_n 0, 1) := by decide +kernel
theorem dL_law_2592 : decode cL_law 2592 = .ok (.iload 5, 2) := by decide +kernel
theorem dL_law_2594 : decode cL_law 2594 = .ok (.iconst 1, 1) := by decide +kernel
theorem dL_law_2595 : decode cL_law 2595 = .ok (.iadd, 1) := by decide +kernel
theorem dL_law_2596 : decode cL_law 2596 = .ok (.iaload, 1) := by decide +kernel
theorem dL_law_2597 : decode cL_law 2597 = .ok (.aload_n 0, 1) := by decide +kernel
theorem dL_law_2598 : decode cL_law 2598 = .ok (.iload 5, 2) := by decide +kernel
theorem dL_law_2600 : decode cL_law 2600 = .ok (.iconst 2, 1) := by decide +kernel
theorem dL_law_2601 : decode cL_law 2601 = .ok (.iadd, 1) := by decide +kernel
theorem dL_law_2602 : decode cL_law 2602 = .ok (.iaload, 1) := by decide +kernel
theorem dL_law_2603 : decode cL_law 2603 = .ok (.ifCond .eq 7, 3) := by decide +kernel
theorem dL_law_2606 : decode cL_law 2606 = .ok (.iconst 1, 1) := by decide +kernel
theorem dL_law_2607 : decode cL_law 2607 = .ok (.goto 4, 3) := by decide +kernel
theorem dL_law_2610 : decode cL_law 2610 = .ok (.iconst 0, 1) := by decide +kernel
theorem dL_law_2611 : decode cL_law 2611 = .ok (.aload_n 3, 1) := by decide +kernel
theorem dL_law_2612 : decode cL_law 2612 = .ok (.invokestatic 279, 3) := by decide +kernel
theorem dL_law_2615 : decode cL_law 2615 = .ok (.istore 6, 2) := by decide +kernel
theorem dL_law_2617 : decode cL_law 2617 = .ok (.aload_n 2, 1) := by decide +kernel
theorem dL_law_2618 : decode cL_law 2618 = .ok (.aload_n 0, 1) := by decide +kernel
theorem dL_law_2619 : decode cL_law 2619 = .ok (.iload 5, 2) := by decide +kernel
theorem dL_law_2621 : decode cL_law 2621 = .ok (.iconst 1, 1) := by decide +kernel
theorem dL_law_2622 : decode cL_law 2622 = .ok (.iadd, 1) := by decide +kernel
theorem dL_law_2623 : decode cL_law 2623 = .ok (.iaload, 1) := by decide +kernel
theorem dL_law_2624 : decode cL_law 2624 = .ok (.aload_n 0, 1) := by decide +kernel
theorem dL_law_2625 : decode cL_law 2625 = .ok (.iload 5, 2) := by decide +kernel
theorem dL_law_2627 : decode cL_law 2627 = .ok (.iconst 2, 1) := by decide +kernel
theorem dL_law_2628 : decode cL_law 2628 = .ok (.iadd, 1) := by decide +kernel
theorem dL_law_2629 : decode cL_law 2629 = .ok (.iaload, 1) := by decide +kernel
theorem dL_law_2630 : decode cL_law 2630 = .ok (.ifCond .eq 7, 3) := by decide +kernel
theorem dL_law_2633 : decode cL_law 2633 = .ok (.iconst 1, 1) := by decide +kernel
theorem dL_law_2634 : decode cL_law 2634 = .ok (.goto 4, 3) := by decide +kernel
theorem dL_law_2637 : decode cL_law 2637 = .ok (.iconst 0, 1) := by decide +kernel
theorem dL_law_2638 : decode cL_law 2638 = .ok (.invokevirtual 281, 3) := by decide +kernel
theorem dL_law_2641 : decode cL_law 2641 = .ok (.istore 7, 2) := by decide +kernel
theorem dL_law_2643 : decode cL_law 2643 = .ok (.aload_n 2, 1) := by decide +kernel
theorem dL_law_2644 : decode cL_law 2644 = .ok (.invokevirtual 149, 3) := by decide +kernel
theorem dL_law_2647 : decode cL_law 2647 = .ok (.iload 6, 2) := by decide +kernel
theorem dL_law_2649 : decode cL_law 2649 = .ok (.if_icmp .eq 5, 3) := by decide +kernel
theorem dL_law_2652 : decode cL_law 2652 = .ok (.iconst 0, 1) := by decide +kernel
theorem dL_law_2653 : decode cL_law 2653 = .ok (.ireturn, 1) := by decide +kernel
theorem dL_law_2654 : decode cL_law 2654 = .ok (.iload 6, 2) := by decide +kernel
theorem dL_law_2656 : decode cL_law 2656 = .ok (.ifCond .ne 22, 3) := by decide +kernel
theorem dL_law_2659 : decode cL_law 2659 = .ok (.aload_n 3, 1) := by decide +kernel
theorem dL_law_2660 : decode cL_law 2660 = .ok (.iconst 0, 1) := by decide +kernel
theorem dL_law_2661 : decode cL_law 2661 = .ok (.laload, 1) := by decide +kernel
theorem dL_law_2662 : decode cL_law 2662 = .ok (.iload 7, 2) := by decide +kernel
theorem dL_law_2664 : decode cL_law 2664 = .ok (.ifCond .eq 7, 3) := by decide +kernel
theorem dL_law_2667 : decode cL_law 2667 = .ok (.lconst 1, 1) := by decide +kernel
theorem dL_law_2668 : decode cL_law 2668 = .ok (.goto 4, 3) := by decide +kernel
theorem dL_law_2671 : decode cL_law 2671 = .ok (.lconst 0, 1) := by decide +kernel
theorem dL_law_2672 : decode cL_law 2672 = .ok (.lcmp, 1) := by decide +kernel
theorem dL_law_2673 : decode cL_law 2673 = .ok (.ifCond .eq 5, 3) := by decide +kernel
theorem dL_law_2676 : decode cL_law 2676 = .ok (.iconst 0, 1) := by decide +kernel
theorem dL_law_2677 : decode cL_law 2677 = .ok (.ireturn, 1) := by decide +kernel
theorem dL_law_2678 : decode cL_law 2678 = .ok (.goto 553, 3) := by decide +kernel
theorem dL_law_2681 : decode cL_law 2681 = .ok (.aload_n 1, 1) := by decide +kernel
theorem dL_law_2682 : decode cL_law 2682 = .ok (.aload_n 0, 1) := by decide +kernel
theorem dL_law_2683 : decode cL_law 2683 = .ok (.iload 5, 2) := by decide +kernel
theorem dL_law_2685 : decode cL_law 2685 = .ok (.iconst 1, 1) := by decide +kernel
theorem dL_law_2686 : decode cL_law 2686 = .ok (.iadd, 1) := by decide +kernel
theorem dL_law_2687 : decode cL_law 2687 = .ok (.iaload, 1) := by decide +kernel
theorem dL_law_2688 : decode cL_law 2688 = .ok (.aload_n 0, 1) := by decide +kernel
theorem dL_law_2689 : decode cL_law 2689 = .ok (.iload 5, 2) := by decide +kernel
theorem dL_law_2691 : decode cL_law 2691 = .ok (.iconst 2, 1) := by decide +kernel
theorem dL_law_2692 : decode cL_law 2692 = .ok (.iadd, 1) := by decide +kernel
theorem dL_law_2693 : decode cL_law 2693 = .ok (.iaload, 1) := by decide +kernel
theorem dL_law_2694 : decode cL_law 2694 = .ok (.ifCond .eq 7, 3) := by decide +kernel
theorem dL_law_2697 : decode cL_law 2697 = .ok (.iconst 1, 1) := by decide +kernel
theorem dL_law_2698 : decode cL_law 2698 = .ok (.goto 4, 3) := by decide +kernel
theorem dL_law_2701 : decode cL_law 2701 = .ok (.iconst 0, 1) := by decide +kernel
theorem dL_law_2702 : decode cL_law 2702 = .ok (.aload_n 3, 1) := by decide +kernel
theorem dL_law_2703 : decode cL_law 2703 = .ok (.invokestatic 282, 3) := by decide +kernel
theorem dL_law_2706 : decode cL_law 2706 = .ok (.istore 6, 2) := by decide +kernel
theorem dL_law_2708 : decode cL_law 2708 = .ok (.aload_n 2, 1) := by decide +kernel
theorem dL_law_2709 : decode cL_law 2709 = .ok (.aload_n 0, 1) := by decide +kernel
theorem dL_law_2710 : decode cL_law 2710 = .ok (.iload 5, 2) := by decide +kernel
theorem dL_law_2712 : decode cL_law 2712 = .ok (.iconst 1, 1) := by decide +kernel
theorem dL_law_2713 : decode cL_law 2713 = .ok (.iadd, 1) := by decide +kernel
theorem dL_law_2714 : decode cL_law 2714 = .ok (.iaload, 1) := by decide +kernel
theorem dL_law_2715 : decode cL_law 2715 = .ok (.aload_n 0, 1) := by decide +kernel
theorem dL_law_2716 : decode cL_law 2716 = .ok (.iload 5, 2) := by decide +kernel
theorem dL_law_2718 : decode cL_law 2718 = .ok (.iconst 2, 1) := by decide +kernel
theorem dL_law_2719 : decode cL_law 2719 = .ok (.iadd, 1) := by decide +kernel
theorem dL_law_2720 : decode cL_law 2720 = .ok (.iaload, 1) := by decide +kernel
theorem dL_law_2721 : decode cL_law 2721 = .ok (.ifCond .eq 7, 3) := by decide +kernel
theorem dL_law_2724 : decode cL_law 2724 = .ok (.iconst 1, 1) := by decide +kernel
theorem dL_law_2725 : decode cL_law 2725 = .ok (.goto 4, 3) := by decide +kernel
theorem dL_law_2728 : decode cL_law 2728 = .ok (.iconst 0, 1) := by decide +kernel
theorem dL_law_2729 : decode cL_law 2729 = .ok (.invokevirtual 284, 3) := by decide +kernel
theorem dL_law_2732 : decode cL_law 2732 = .ok (.istore 7, 2) := by decide +kernel
theorem dL_law_2734 : decode cL_law 2734 = .ok (.aload_n 2, 1) := by decide +kernel
theorem dL_law_2735 : decode cL_law 2735 = .ok (.invokevirtual 149, 3) := by decide +kernel
theorem dL_law_2738 : decode cL_law 2738 = .ok (.iload 6, 2) := by decide +kernel
theorem dL_law_2740 : decode cL_law 2740 = .ok (.if_icmp .eq 5, 3) := by decide +kernel
theorem dL_law_2743 : decode cL_law 2743 = .ok (.iconst 0, 1) := by decide +kernel
theorem dL_law_2744 : decode cL_law 2744 = .ok (.ireturn, 1) := by decide +kernel
theorem dL_law_2745 : decode cL_law 2745 = .ok (.iload 6, 2) := by decide +kernel
theorem dL_law_2747 : decode cL_law 2747 = .ok (.ifCond .ne 15, 3) := by decide +kernel
theorem dL_law_2750 : decode cL_law 2750 = .ok (.aload_n 3, 1) := by decide +kernel
theorem dL_law_2751 : decode cL_law 2751 = .ok (.iconst 0, 1) := by decide +kernel
theorem dL_law_2752 : decode cL_law 2752 = .ok (.laload, 1) := by decide +kernel
theorem dL_law_2753 : decode cL_law 2753 = .ok (.iload 7, 2) := by decide +kernel
theorem dL_law_2755 : decode cL_law 2755 = .ok (.i2l, 1) := by decide +kernel
theorem dL_law_2756 : decode cL_law 2756 = .ok (.lcmp, 1) := by decide +kernel
theorem dL_law_2757 : decode cL_law 2757 = .ok (.ifCond .eq 5, 3) := by decide +kernel
theorem dL_law_2760 : decode cL_law 2760 = .ok (.iconst 0, 1) := by decide +kernel
theorem dL_law_2761 : decode cL_law 2761 = .ok (.ireturn, 1) := by decide +kernel
theorem dL_law_2762 : decode cL_law 2762 = .ok (.goto 469, 3) := by decide +kernel
theorem dL_law_2765 : decode cL_law 2765 = .ok (.aload_n 1, 1) := by decide +kernel
theorem dL_law_2766 : decode cL_law 2766 = .ok (.aload_n 0, 1) := by decide +kernel
theorem dL_law_2767 : decode cL_law 2767 = .ok (.iload 5, 2) := by decide +kernel
theorem dL_law_2769 : decode cL_law 2769 = .ok (.iconst 1, 1) := by decide +kernel
theorem dL_law_2770 : decode cL_law 2770 = .ok (.iadd, 1) := by decide +kernel
theorem dL_law_2771 : decode cL_law 2771 = .ok (.iaload, 1) := by decide +kernel
theorem dL_law_2772 : decode cL_law 2772 = .ok (.aload_n 0, 1) := by decide +kernel
theorem dL_law_2773 : decode cL_law 2773 = .ok (.iload 5, 2) := by decide +kernel
theorem dL_law_2775 : decode cL_law 2775 = .ok (.iconst 2, 1) := by decide +kernel
theorem dL_law_2776 : decode cL_law 2776 = .ok (.iadd, 1) := by decide +kernel
theorem dL_law_2777 : decode cL_law 2777 = .ok (.iaload, 1) := by decide +kernel
theorem dL_law_2778 : decode cL_law 2778 = .ok (.ifCond .eq 7, 3) := by decide +kernel
theorem dL_law_2781 : decode cL_law 2781 = .ok (.iconst 1, 1) := by decide +kernel
theorem dL_law_2782 : decode cL_law 2782 = .ok (.goto 4, 3) := by decide +kernel
theorem dL_law_2785 : decode cL_law 2785 = .ok (.iconst 0, 1) := by decide +kernel
theorem dL_law_2786 : decode cL_law 2786 = .ok (.aload_n 0, 1) := by decide +kernel
theorem dL_law_2787 : decode cL_law 2787 = .ok (.iload 5, 2) := by decide +kernel
theorem dL_law_2789 : decode cL_law 2789 = .ok (.iconst 3, 1) := by decide +kernel
theorem dL_law_2790 : decode cL_law 2790 = .ok (.iadd, 1) := by decide +kernel
theorem dL_law_2791 : decode cL_law 2791 = .ok (.iaload, 1) := by decide +kernel
theorem dL_law_2792 : decode cL_law 2792 = .ok (.aload_n 0, 1) := by decide +kernel
theorem dL_law_2793 : decode cL_law 2793 = .ok (.iload 5, 2) := by decide +kernel
theorem dL_law_2795 : decode cL_law 2795 = .ok (.iconst 4, 1) := by decide +kernel
theorem dL_law_2796 : decode cL_law 2796 = .ok (.iadd, 1) := by decide +kernel
theorem dL_law_2797 : decode cL_law 2797 = .ok (.iaload, 1) := by decide +kernel
theorem dL_law_2798 : decode cL_law 2798 = .ok (.aload_n 0, 1) := by decide +kernel
theorem dL_law_2799 : decode cL_law 2799 = .ok (.iload 5, 2) := by decide +kernel
theorem dL_law_2801 : decode cL_law 2801 = .ok (.iconst 5, 1) := by decide +kernel
theorem dL_law_2802 : decode cL_law 2802 = .ok (.iadd, 1) := by decide +kernel
theorem dL_law_2803 : decode cL_law 2803 = .ok (.iaload, 1) := by decide +kernel
theorem dL_law_2804 : decode cL_law 2804 = .ok (.aload_n 3, 1) := by decide +kernel
theorem dL_law_2805 : decode cL_law 2805 = .ok (.invokestatic 285, 3) := by decide +kernel
theorem dL_law_2808 : decode cL_law 2808 = .ok (.istore 6, 2) := by decide +kernel
theorem dL_law_2810 : decode cL_law 2810 = .ok (.aload_n 2, 1) := by decide +kernel
theorem dL_law_2811 : decode cL_law 2811 = .ok (.aload_n 0, 1) := by decide +kernel
theorem dL_law_2812 : decode cL_law 2812 = .ok (.iload 5, 2) := by decide +kernel
theorem dL_law_2814 : decode cL_law 2814 = .ok (.iconst 1, 1) := by decide +kernel
theorem dL_law_2815 : decode cL_law 2815 = .ok (.iadd, 1) := by decide +kernel
theorem dL_law_2816 : decode cL_law 2816 = .ok (.iaload, 1) := by decide +kernel
theorem dL_law_2817 : decode cL_law 2817 = .ok (.aload_n 0, 1) := by decide +kernel
theorem dL_law_2818 : decode cL_law 2818 = .ok (.iload 5, 2) := by decide +kernel
theorem dL_law_2820 : decode cL_law 2820 = .ok (.iconst 2, 1) := by decide +kernel
theorem dL_law_2821 : decode cL_law 2821 = .ok (.iadd, 1) := by decide +kernel
theorem dL_law_2822 : decode cL_law 2822 = .ok (.iaload, 1) := by decide +kernel
theorem dL_law_2823 : decode cL_law 2823 = .ok (.ifCond .eq 7, 3) := by decide +kernel
theorem dL_law_2826 : decode cL_law 2826 = .ok (.iconst 1, 1) := by decide +kernel
theorem dL_law_2827 : decode cL_law 2827 = .ok (.goto 4, 3) := by decide +kernel
theorem dL_law_2830 : decode cL_law 2830 = .ok (.iconst 0, 1) := by decide +kernel
theorem dL_law_2831 : decode cL_law 2831 = .ok (.aload_n 0, 1) := by decide +kernel
theorem dL_law_2832 : decode cL_law 2832 = .ok (.iload 5, 2) := by decide +kernel
theorem dL_law_2834 : decode cL_law 2834 = .ok (.iconst 3, 1) := by decide +kernel
theorem dL_law_2835 : decode cL_law 2835 = .ok (.iadd, 1) := by decide +kernel
theorem dL_law_2836 : decode cL_law 2836 = .ok (.iaload, 1) := by decide +kernel
theorem dL_law_2837 : decode cL_law 2837 = .ok (.aload_n 0, 1) := by decide +kernel
theorem dL_law_2838 : decode cL_law 2838 = .ok (.iload 5, 2) := by decide +kernel
theorem dL_law_2840 : decode cL_law 2840 = .ok (.iconst 4, 1) := by decide +kernel
theorem dL_law_2841 : decode cL_law 2841 = .ok (.iadd, 1) := by decide +kernel
theorem dL_law_2842 : decode cL_law 2842 = .ok (.iaload, 1) := by decide +kernel
theorem dL_law_2843 : decode cL_law 2843 = .ok (.aload_n 0, 1) := by decide +kernel
theorem dL_law_2844 : decode cL_law 2844 = .ok (.iload 5, 2) := by decide +kernel
theorem dL_law_2846 : decode cL_law 2846 = .ok (.iconst 5, 1) := by decide +kernel
theorem dL_law_2847 : decode cL_law 2847 = .ok (.iadd, 1) := by decide +kernel
theorem dL_law_2848 : decode cL_law 2848 = .ok (.iaload, 1) := by decide +kernel
theorem dL_law_2849 : decode cL_law 2849 = .ok (.invokevirtual 288, 3) := by decide +kernel
theorem dL_law_2852 : decode cL_law 2852 = .ok (.istore 7, 2) := by decide +kernel
theorem dL_law_2854 : decode cL_law 2854 = .ok (.aload_n 2, 1) := by decide +kernel
theorem dL_law_2855 : decode cL_law 2855 = .ok (.invokevirtual 149, 3) := by decide +kernel
theorem dL_law_2858 : decode cL_law 2858 = .ok (.iload 6, 2) := by decide +kernel
theorem dL_law_2860 : decode cL_law 2860 = .ok (.if_icmp .eq 5, 3) := by decide +kernel
theorem dL_law_2863 : decode cL_law 2863 = .ok (.iconst 0, 1) := by decide +kernel
theorem dL_law_2864 : decode cL_law 2864 = .ok (.ireturn, 1) := by decide +kernel
theorem dL_law_2865 : decode cL_law 2865 = .ok (.iload 6, 2) := by decide +kernel
theorem dL_law_2867 : decode cL_law 2867 = .ok (.ifCond .ne 15, 3) := by decide +kernel
theorem dL_law_2870 : decode cL_law 2870 = .ok (.aload_n 3, 1) := by decide +kernel
theorem dL_law_2871 : decode cL_law 2871 = .ok (.iconst 0, 1) := by decide +kernel
theorem dL_law_2872 : decode cL_law 2872 = .ok (.laload, 1) := by decide +kernel
theorem dL_law_2873 : decode cL_law 2873 = .ok (.iload 7, 2) := by decide +kernel
theorem dL_law_2875 : decode cL_law 2875 = .ok (.i2l, 1) := by decide +kernel
theorem dL_law_2876 : decode cL_law 2876 = .ok (.lcmp, 1) := by decide +kernel
theorem dL_law_2877 : decode cL_law 2877 = .ok (.ifCond .eq 5, 3) := by decide +kernel
theorem dL_law_2880 : decode cL_law 2880 = .ok (.iconst 0, 1) := by decide +kernel
theorem dL_law_2881 : decode cL_law 2881 = .ok (.ireturn, 1) := by decide +kernel
theorem dL_law_2882 : decode cL_law 2882 = .ok (.goto 349, 3) := by decide +kernel
theorem dL_law_2885 : decode cL_law 2885 = .ok (.aload_n 1, 1) := by decide +kernel
theorem dL_law_2886 : decode cL_law 2886 = .ok (.aload_n 0, 1) := by decide +kernel
theorem dL_law_2887 : decode cL_law 2887 = .ok (.iload 5, 2) := by decide +kernel
theorem dL_law_2889 : decode cL_law 2889 = .ok (.iconst 1, 1) := by decide +kernel
theorem dL_law_2890 : decode cL_law 2890 = .ok (.iadd, 1) := by decide +kernel
theorem dL_law_2891 : decode cL_law 2891 = .ok (.iaload, 1) := by decide +kernel
theorem dL_law_2892 : decode cL_law 2892 = .ok (.aload_n 3, 1) := by decide +kernel
theorem dL_law_2893 : decode cL_law 2893 = .ok (.invokestatic 289, 3) := by decide +kernel
theorem dL_law_2896 : decode cL_law 2896 = .ok (.istore 6, 2) := by decide +kernel
theorem dL_law_2898 : decode cL_law 2898 = .ok (.aload_n 2, 1) := by decide +kernel
theorem dL_law_2899 : decode cL_law 2899 = .ok (.aload_n 0, 1) := by decide +kernel
theorem dL_law_2900 : decode cL_law 2900 = .ok (.iload 5, 2) := by decide +kernel
theorem dL_law_2902 : decode cL_law 2902 = .ok (.iconst 1, 1) := by decide +kernel
theorem dL_law_2903 : decode cL_law 2903 = .ok (.iadd, 1) := by decide +kernel
theorem dL_law_2904 : decode cL_law 2904 = .ok (.iaload, 1) := by decide +kernel
theorem dL_law_2905 : decode cL_law 2905 = .ok (.invokevirtual 291, 3) := by decide +kernel
theorem dL_law_2908 : decode cL_law 2908 = .ok (.istore 7, 2) := by decide +kernel
theorem dL_law_2910 : decode cL_law 2910 = .ok (.aload_n 2, 1) := by decide +kernel
theorem dL_law_2911 : decode cL_law 2911 = .ok (.invokevirtual 149, 3) := by decide +kernel
theorem dL_law_2914 : decode cL_law 2914 = .ok (.iload 6, 2) := by decide +kernel
theorem dL_law_2916 : decode cL_law 2916 = .ok (.if_icmp .eq 5, 3) := by decide +kernel
theorem dL_law_2919 : decode cL_law 2919 = .ok (.iconst 0, 1) := by decide +kernel
theorem dL_law_2920 : decode cL_law 2920 = .ok (.ireturn, 1) := by decide +kernel
theorem dL_law_2921 : decode cL_law 2921 = .ok (.iload 6, 2) := by decide +kernel
theorem dL_law_2923 : decode cL_law 2923 = .ok (.ifCond .ne 15, 3) := by decide +kernel
theorem dL_law_2926 : decode cL_law 2926 = .ok (.aload_n 3, 1) := by decide +kernel
theorem dL_law_2927 : decode cL_law 2927 = .ok (.iconst 0, 1) := by decide +kernel
theorem dL_law_2928 : decode cL_law 2928 = .ok (.laload, 1) := by decide +kernel
theorem dL_law_2929 : decode cL_law 2929 = .ok (.iload 7, 2) := by decide +kernel
theorem dL_law_2931 : decode cL_law 2931 = .ok (.i2l, 1) := by decide +kernel
theorem dL_law_2932 : decode cL_law 2932 = .ok (.lcmp, 1) := by decide +kernel
theorem dL_law_2933 : decode cL_law 2933 = .ok (.ifCond .eq 5, 3) := by decide +kernel
theorem dL_law_2936 : decode cL_law 2936 = .ok (.iconst 0, 1) := by decide +kernel
theorem dL_law_2937 : decode cL_law 2937 = .ok (.ireturn, 1) := by decide +kernel
theorem dL_law_2938 : decode cL_law 2938 = .ok (.goto 293, 3) := by decide +kernel
theorem dL_law_2941 : decode cL_law 2941 = .ok (.aload_n 1, 1) := by decide +kernel
theorem dL_law_2942 : decode cL_law 2942 = .ok (.aload_n 0, 1) := by decide +kernel
theorem dL_law_2943 : decode cL_law 2943 = .ok (.iload 5, 2) := by decide +kernel
theorem dL_law_2945 : decode cL_law 2945 = .ok (.iconst 1, 1) := by decide +kernel
theorem dL_law_2946 : decode cL_law 2946 = .ok (.iadd, 1) := by decide +kernel
theorem dL_law_2947 : decode cL_law 2947 = .ok (.iaload, 1) := by decide +kernel
theorem dL_law_2948 : decode cL_law 2948 = .ok (.ifCond .eq 7, 3) := by decide +kernel
theorem dL_law_2951 : decode cL_law 2951 = .ok (.iconst 1, 1) := by decide +kernel
theorem dL_law_2952 : decode cL_law 2952 = .ok (.goto 4, 3) := by decide +kernel
theorem dL_law_2955 : decode cL_law 2955 = .ok (.iconst 0, 1) := by decide +kernel
theorem dL_law_2956 : decode cL_law 2956 = .ok (.aload_n 0, 1) := by decide +kernel
theorem dL_law_2957 : decode cL_law 2957 = .ok (.iload 5, 2) := by decide +kernel
theorem dL_law_2959 : decode cL_law 2959 = .ok (.iconst 2, 1) := by decide +kernel
theorem dL_law_2960 : decode cL_law 2960 = .ok (.iadd, 1) := by decide +kernel
theorem dL_law_2961 : decode cL_law 2961 = .ok (.iaload, 1) := by decide +kernel
theorem dL_law_2962 : decode cL_law 2962 = .ok (.aload_n 0, 1) := by decide +kernel
theorem dL_law_2963 : decode cL_law 2963 = .ok (.iload 5, 2) := by decide +kernel
theorem dL_law_2965 : decode cL_law 2965 = .ok (.iconst 3, 1) := by decide +kernel
theorem dL_law_2966 : decode cL_law 2966 = .ok (.iadd, 1) := by decide +kernel
theorem dL_law_2967 : decode cL_law 2967 = .ok (.iaload, 1) := by decide +kernel
theorem dL_law_2968 : decode cL_law 2968 = .ok (.aload_n 0, 1) := by decide +kernel
theorem dL_law_2969 : decode cL_law 2969 = .ok (.iload 5, 2) := by decide +kernel
theorem dL_law_2971 : decode cL_law 2971 = .ok (.iconst 4, 1) := by decide +kernel
theorem dL_law_2972 : decode cL_law 2972 = .ok (.iadd, 1) := by decide +kernel
theorem dL_law_2973 : decode cL_law 2973 = .ok (.iaload, 1) := by decide +kernel
theorem dL_law_2974 : decode cL_law 2974 = .ok (.aload_n 3, 1) := by decide +kernel
theorem dL_law_2975 : decode cL_law 2975 = .ok (.invokestatic 292, 3) := by decide +kernel
theorem dL_law_2978 : decode cL_law 2978 = .ok (.istore 6, 2) := by decide +kernel
theorem dL_law_2980 : decode cL_law 2980 = .ok (.aload_n 2, 1) := by decide +kernel
theorem dL_law_2981 : decode cL_law 2981 = .ok (.aload_n 0, 1) := by decide +kernel
theorem dL_law_2982 : decode cL_law 2982 = .ok (.iload 5, 2) := by decide +kernel
theorem dL_law_2984 : decode cL_law 2984 = .ok (.iconst 1, 1) := by decide +kernel
theorem dL_law_2985 : decode cL_law 2985 = .ok (.iadd, 1) := by decide +kernel
theorem dL_law_2986 : decode cL_law 2986 = .ok (.iaload, 1) := by decide +kernel
theorem dL_law_2987 : decode cL_law 2987 = .ok (.ifCond .eq 7, 3) := by decide +kernel
theorem dL_law_2990 : decode cL_law 2990 = .ok (.iconst 1, 1) := by decide +kernel
theorem dL_law_2991 : decode cL_law 2991 = .ok (.goto 4, 3) := by decide +kernel
theorem dL_law_2994 : decode cL_law 2994 = .ok (.iconst 0, 1) := by decide +kernel
theorem dL_law_2995 : decode cL_law 2995 = .ok (.aload_n 0, 1) := by decide +kernel
theorem dL_law_2996 : decode cL_law 2996 = .ok (.iload 5, 2) := by decide +kernel
theorem dL_law_2998 : decode cL_law 2998 = .ok (.iconst 2, 1) := by decide +kernel
theorem dL_law_2999 : decode cL_law 2999 = .ok (.iadd, 1) := by decide +kernel
theorem dL_law_3000 : decode cL_law 3000 = .ok (.iaload, 1) := by decide +kernel
theorem dL_law_3001 : decode cL_law 3001 = .ok (.aload_n 0, 1) := by decide +kernel
theorem dL_law_3002 : decode cL_law 3002 = .ok (.iload 5, 2) := by decide +kernel
theorem dL_law_3004 : decode cL_law 3004 = .ok (.iconst 3, 1) := by decide +kernel
theorem dL_law_3005 : decode cL_law 3005 = .ok (.iadd, 1) := by decide +kernel
theorem dL_law_3006 : decode cL_law 3006 = .ok (.iaload, 1) := by decide +kernel
theorem dL_law_3007 : decode cL_law 3007 = .ok (.aload_n 0, 1) := by decide +kernel
theorem dL_law_3008 : decode cL_law 3008 = .ok (.iload 5, 2) := by decide +kernel
theorem dL_law_3010 : decode cL_law 3010 = .ok (.iconst 4, 1) := by decide +kernel
theorem dL_law_3011 : decode cL_law 3011 = .ok (.iadd, 1) := by decide +kernel
theorem dL_law_3012 : decode cL_law 3012 = .ok (.iaload, 1) := by decide +kernel
theorem dL_law_3013 : decode cL_law 3013 = .ok (.invokevirtual 295, 3) := by decide +kernel
theorem dL_law_3016 : decode cL_law 3016 = .ok (.istore 7, 2) := by decide +kernel
theorem dL_law_3018 : decode cL_law 3018 = .ok (.aload_n 2, 1) := by decide +kernel
theorem dL_law_3019 : decode cL_law 3019 = .ok (.invokevirtual 149, 3) := by decide +kernel
theorem dL_law_3022 : decode cL_law 3022 = .ok (.iload 6, 2) := by decide +kernel
theorem dL_law_3024 : decode cL_law 3024 = .ok (.if_icmp .eq 5, 3) := by decide +kernel
theorem dL_law_3027 : decode cL_law 3027 = .ok (.iconst 0, 1) := by decide +kernel
theorem dL_law_3028 : decode cL_law 3028 = .ok (.ireturn, 1) := by decide +kernel
theorem dL_law_3029 : decode cL_law 3029 = .ok (.iload 6, 2) := by decide +kernel
theorem dL_law_3031 : decode cL_law 3031 = .ok (.ifCond .ne 15, 3) := by decide +kernel
theorem dL_law_3034 : decode cL_law 3034 = .ok (.aload_n 3, 1) := by decide +kernel
theorem dL_law_3035 : decode cL_law 3035 = .ok (.iconst 0, 1) := by decide +kernel
theorem dL_law_3036 : decode cL_law 3036 = .ok (.laload, 1) := by decide +kernel
theorem dL_law_3037 : decode cL_law 3037 = .ok (.iload 7, 2) := by decide +kernel
theorem dL_law_3039 : decode cL_law 3039 = .ok (.i2l, 1) := by decide +kernel
theorem dL_law_3040 : decode cL_law 3040 = .ok (.lcmp, 1) := by decide +kernel
theorem dL_law_3041 : decode cL_law 3041 = .ok (.ifCond .eq 5, 3) := by decide +kernel
theorem dL_law_3044 : decode cL_law 3044 = .ok (.iconst 0, 1) := by decide +kernel
theorem dL_law_3045 : decode cL_law 3045 = .ok (.ireturn, 1) := by decide +kernel
theorem dL_law_3046 : decode cL_law 3046 = .ok (.goto 185, 3) := by decide +kernel
theorem dL_law_3049 : decode cL_law 3049 = .ok (.aload_n 1, 1) := by decide +kernel
theorem dL_law_3050 : decode cL_law 3050 = .ok (.aload_n 0, 1) := by decide +kernel
theorem dL_law_3051 : decode cL_law 3051 = .ok (.iload 5, 2) := by decide +kernel
theorem dL_law_3053 : decode cL_law 3053 = .ok (.iconst 1, 1) := by decide +kernel
theorem dL_law_3054 : decode cL_law 3054 = .ok (.iadd, 1) := by decide +kernel
theorem dL_law_3055 : decode cL_law 3055 = .ok (.iaload, 1) := by decide +kernel
theorem dL_law_3056 : decode cL_law 3056 = .ok (.aload_n 3, 1) := by decide +kernel
theorem dL_law_3057 : decode cL_law 3057 = .ok (.invokestatic 296, 3) := by decide +kernel
theorem dL_law_3060 : decode cL_law 3060 = .ok (.istore 6, 2) := by decide +kernel
theorem dL_law_3062 : decode cL_law 3062 = .ok (.aload_n 2, 1) := by decide +kernel
theorem dL_law_3063 : decode cL_law 3063 = .ok (.aload_n 0, 1) := by decide +kernel
theorem dL_law_3064 : decode cL_law 3064 = .ok (.iload 5, 2) := by decide +kernel
theorem dL_law_3066 : decode cL_law 3066 = .ok (.iconst 1, 1) := by decide +kernel
theorem dL_law_3067 : decode cL_law 3067 = .ok (.iadd, 1) := by decide +kernel
theorem dL_law_3068 : decode cL_law 3068 = .ok (.iaload, 1) := by decide +kernel
theorem dL_law_3069 : decode cL_law 3069 = .ok (.invokevirtual 298, 3) := by decide +kernel
theorem dL_law_3072 : decode cL_law 3072 = .ok (.istore 7, 2) := by decide +kernel
theorem dL_law_3074 : decode cL_law 3074 = .ok (.aload_n 2, 1) := by decide +kernel
theorem dL_law_3075 : decode cL_law 3075 = .ok (.invokevirtual 149, 3) := by decide +kernel
theorem dL_law_3078 : decode cL_law 3078 = .ok (.iload 6, 2) := by decide +kernel
theorem dL_law_3080 : decode cL_law 3080 = .ok (.if_icmp .eq 5, 3) := by decide +kernel
theorem dL_law_3083 : decode cL_law 3083 = .ok (.iconst 0, 1) := by decide +kernel
theorem dL_law_3084 : decode cL_law 3084 = .ok (.ireturn, 1) := by decide +kernel
theorem dL_law_3085 : decode cL_law 3085 = .ok (.iload 6, 2) := by decide +kernel
theorem dL_law_3087 : decode cL_law 3087 = .ok (.ifCond .ne 15, 3) := by decide +kernel
theorem dL_law_3090 : decode cL_law 3090 = .ok (.aload_n 3, 1) := by decide +kernel
theorem dL_law_3091 : decode cL_law 3091 = .ok (.iconst 0, 1) := by decide +kernel
theorem dL_law_3092 : decode cL_law 3092 = .ok (.laload, 1) := by decide +kernel
theorem dL_law_3093 : decode cL_law 3093 = .ok (.iload 7, 2) := by decide +kernel
theorem dL_law_3095 : decode cL_law 3095 = .ok (.i2l, 1) := by decide +kernel
theorem dL_law_3096 : decode cL_law 3096 = .ok (.lcmp, 1) := by decide +kernel
theorem dL_law_3097 : decode cL_law 3097 = .ok (.ifCond .eq 5, 3) := by decide +kernel
theorem dL_law_3100 : decode cL_law 3100 = .ok (.iconst 0, 1) := by decide +kernel
theorem dL_law_3101 : decode cL_law 3101 = .ok (.ireturn, 1) := by decide +kernel
theorem dL_law_3102 : decode cL_law 3102 = .ok (.goto 129, 3) := by decide +kernel
theorem dL_law_3105 : decode cL_law 3105 = .ok (.aload_n 1, 1) := by decide +kernel
theorem dL_law_3106 : decode cL_law 3106 = .ok (.aload_n 0, 1) := by decide +kernel
theorem dL_law_3107 : decode cL_law 3107 = .ok (.iload 5, 2) := by decide +kernel
theorem dL_law_3109 : decode cL_law 3109 = .ok (.iconst 1, 1) := by decide +kernel
theorem dL_law_3110 : decode cL_law 3110 = .ok (.iadd, 1) := by decide +kernel
theorem dL_law_3111 : decode cL_law 3111 = .ok (.iaload, 1) := by decide +kernel
theorem dL_law_3112 : decode cL_law 3112 = .ok (.aload_n 3, 1) := by decide +kernel
theorem dL_law_3113 : decode cL_law 3113 = .ok (.invokestatic 299, 3) := by decide +kernel
theorem dL_law_3116 : decode cL_law 3116 = .ok (.istore 6, 2) := by decide +kernel
theorem dL_law_3118 : decode cL_law 3118 = .ok (.aload_n 2, 1) := by decide +kernel
theorem dL_law_3119 : decode cL_law 3119 = .ok (.aload_n 0, 1) := by decide +kernel
theorem dL_law_3120 : decode cL_law 3120 = .ok (.iload 5, 2) := by decide +kernel
theorem dL_law_3122 : decode cL_law 3122 = .ok (.iconst 1, 1) := by decide +kernel
theorem dL_law_3123 : decode cL_law 3123 = .ok (.iadd, 1) := by decide +kernel
theorem dL_law_3124 : decode cL_law 3124 = .ok (.iaload, 1) := by decide +kernel
theorem dL_law_3125 : decode cL_law 3125 = .ok (.invokevirtual 301, 3) := by decide +kernel
theorem dL_law_3128 : decode cL_law 3128 = .ok (.istore 7, 2) := by decide +kernel
theorem dL_law_3130 : decode cL_law 3130 = .ok (.aload_n 2, 1) := by decide +kernel
theorem dL_law_3131 : decode cL_law 3131 = .ok (.invokevirtual 149, 3) := by decide +kernel
theorem dL_law_3134 : decode cL_law 3134 = .ok (.iload 6, 2) := by decide +kernel
theorem dL_law_3136 : decode cL_law 3136 = .ok (.if_icmp .eq 5, 3) := by decide +kernel
theorem dL_law_3139 : decode cL_law 3139 = .ok (.iconst 0, 1) := by decide +kernel
theorem dL_law_3140 : decode cL_law 3140 = .ok (.ireturn, 1) := by decide +kernel
theorem dL_law_3141 : decode cL_law 3141 = .ok (.iload 6, 2) := by decide +kernel
theorem dL_law_3143 : decode cL_law 3143 = .ok (.ifCond .ne 15, 3) := by decide +kernel
theorem dL_law_3146 : decode cL_law 3146 = .ok (.aload_n 3, 1) := by decide +kernel
theorem dL_law_3147 : decode cL_law 3147 = .ok (.iconst 0, 1) := by decide +kernel
theorem dL_law_3148 : decode cL_law 3148 = .ok (.laload, 1) := by decide +kernel
theorem dL_law_3149 : decode cL_law 3149 = .ok (.iload 7, 2) := by decide +kernel
theorem dL_law_3151 : decode cL_law 3151 = .ok (.i2l, 1) := by decide +kernel
theorem dL_law_3152 : decode cL_law 3152 = .ok (.lcmp, 1) := by decide +kernel
theorem dL_law_3153 : decode cL_law 3153 = .ok (.ifCond .eq 5, 3) := by decide +kernel
theorem dL_law_3156 : decode cL_law 3156 = .ok (.iconst 0, 1) := by decide +kernel
theorem dL_law_3157 : decode cL_law 3157 = .ok (.ireturn, 1) := by decide +kernel
theorem dL_law_3158 : decode cL_law 3158 = .ok (.goto 73, 3) := by decide +kernel
theorem dL_law_3161 : decode cL_law 3161 = .ok (.aload_n 1, 1) := by decide +kernel
theorem dL_law_3162 : decode cL_law 3162 = .ok (.invokevirtual 302, 3) := by decide +kernel
theorem dL_law_3165 : decode cL_law 3165 = .ok (.aload_n 2, 1) := by decide +kernel
theorem dL_law_3166 : decode cL_law 3166 = .ok (.invokevirtual 305, 3) := by decide +kernel
theorem dL_law_3169 : decode cL_law 3169 = .ok (.if_icmp .eq 62, 3) := by decide +kernel
theorem dL_law_3172 : decode cL_law 3172 = .ok (.iconst 0, 1) := by decide +kernel
theorem dL_law_3173 : decode cL_law 3173 = .ok (.ireturn, 1) := by decide +kernel
theorem dL_law_3174 : decode cL_law 3174 = .ok (.aload_n 1, 1) := by decide +kernel
theorem dL_law_3175 : decode cL_law 3175 = .ok (.invokevirtual 306, 3) := by decide +kernel
theorem dL_law_3178 : decode cL_law 3178 = .ok (.aload_n 2, 1) := by decide +kernel
theorem dL_law_3179 : decode cL_law 3179 = .ok (.invokevirtual 309, 3) := by decide +kernel
theorem dL_law_3182 : decode cL_law 3182 = .ok (.if_icmp .eq 49, 3) := by decide +kernel
theorem dL_law_3185 : decode cL_law 3185 = .ok (.iconst 0, 1) := by decide +kernel
theorem dL_law_3186 : decode cL_law 3186 = .ok (.ireturn, 1) := by decide +kernel
theorem dL_law_3187 : decode cL_law 3187 = .ok (.aload_n 1, 1) := by decide +kernel
theorem dL_law_3188 : decode cL_law 3188 = .ok (.aload_n 3, 1) := by decide +kernel
theorem dL_law_3189 : decode cL_law 3189 = .ok (.invokestatic 310, 3) := by decide +kernel
theorem dL_law_3192 : decode cL_law 3192 = .ok (.istore 6, 2) := by decide +kernel
theorem dL_law_3194 : decode cL_law 3194 = .ok (.aload_n 2, 1) := by decide +kernel
theorem dL_law_3195 : decode cL_law 3195 = .ok (.invokevirtual 312, 3) := by decide +kernel
theorem dL_law_3198 : decode cL_law 3198 = .ok (.istore 7, 2) := by decide +kernel
theorem dL_law_3200 : decode cL_law 3200 = .ok (.aload_n 2, 1) := by decide +kernel
theorem dL_law_3201 : decode cL_law 3201 = .ok (.invokevirtual 149, 3) := by decide +kernel
theorem dL_law_3204 : decode cL_law 3204 = .ok (.iload 6, 2) := by decide +kernel
theorem dL_law_3206 : decode cL_law 3206 = .ok (.if_icmp .eq 5, 3) := by decide +kernel
theorem dL_law_3209 : decode cL_law 3209 = .ok (.iconst 0, 1) := by decide +kernel
theorem dL_law_3210 : decode cL_law 3210 = .ok (.ireturn, 1) := by decide +kernel
theorem dL_law_3211 : decode cL_law 3211 = .ok (.iload 6, 2) := by decide +kernel
theorem dL_law_3213 : decode cL_law 3213 = .ok (.ifCond .ne 15, 3) := by decide +kernel
theorem dL_law_3216 : decode cL_law 3216 = .ok (.aload_n 3, 1) := by decide +kernel
theorem dL_law_3217 : decode cL_law 3217 = .ok (.iconst 0, 1) := by decide +kernel
theorem dL_law_3218 : decode cL_law 3218 = .ok (.laload, 1) := by decide +kernel
theorem dL_law_3219 : decode cL_law 3219 = .ok (.iload 7, 2) := by decide +kernel
theorem dL_law_3221 : decode cL_law 3221 = .ok (.i2l, 1) := by decide +kernel
theorem dL_law_3222 : decode cL_law 3222 = .ok (.lcmp, 1) := by decide +kernel
theorem dL_law_3223 : decode cL_law 3223 = .ok (.ifCond .eq 5, 3) := by decide +kernel
theorem dL_law_3226 : decode cL_law 3226 = .ok (.iconst 0, 1) := by decide +kernel
theorem dL_law_3227 : decode cL_law 3227 = .ok (.ireturn, 1) := by decide +kernel
theorem dL_law_3228 : decode cL_law 3228 = .ok (.goto 3, 3) := by decide +kernel
theorem dL_law_3231 : decode cL_law 3231 = .ok (.iinc 5 6, 3) := by decide +kernel
theorem dL_law_3234 : decode cL_law 3234 = .ok (.goto (-3206), 3) := by decide +kernel
theorem dL_law_3237 : decode cL_law 3237 = .ok (.iconst 1, 1) := by decide +kernel
theorem dL_law_3238 : decode cL_law 3238 = .ok (.ireturn, 1) := by decide +kernel
