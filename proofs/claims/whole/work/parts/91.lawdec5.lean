theorem dL_law_2490 : decode cL_law 2490 = .ok (.if_icmp .eq 5, 3) := by decide +kernel
theorem dL_law_2493 : decode cL_law 2493 = .ok (.iconst 0, 1) := by decide +kernel
theorem dL_law_2494 : decode cL_law 2494 = .ok (.ireturn, 1) := by decide +kernel
theorem dL_law_2495 : decode cL_law 2495 = .ok (.iload 5, 2) := by decide +kernel
theorem dL_law_2497 : decode cL_law 2497 = .ok (.ifCond .ne 15, 3) := by decide +kernel
theorem dL_law_2500 : decode cL_law 2500 = .ok (.aload_n 3, 1) := by decide +kernel
theorem dL_law_2501 : decode cL_law 2501 = .ok (.iconst 0, 1) := by decide +kernel
theorem dL_law_2502 : decode cL_law 2502 = .ok (.laload, 1) := by decide +kernel
theorem dL_law_2503 : decode cL_law 2503 = .ok (.iload 6, 2) := by decide +kernel
theorem dL_law_2505 : decode cL_law 2505 = .ok (.i2l, 1) := by decide +kernel
theorem dL_law_2506 : decode cL_law 2506 = .ok (.lcmp, 1) := by decide +kernel
theorem dL_law_2507 : decode cL_law 2507 = .ok (.ifCond .eq 5, 3) := by decide +kernel
theorem dL_law_2510 : decode cL_law 2510 = .ok (.iconst 0, 1) := by decide +kernel
theorem dL_law_2511 : decode cL_law 2511 = .ok (.ireturn, 1) := by decide +kernel
theorem dL_law_2512 : decode cL_law 2512 = .ok (.goto 396, 3) := by decide +kernel
theorem dL_law_2515 : decode cL_law 2515 = .ok (.aload_n 1, 1) := by decide +kernel
theorem dL_law_2516 : decode cL_law 2516 = .ok (.aload_n 0, 1) := by decide +kernel
theorem dL_law_2517 : decode cL_law 2517 = .ok (.iload 4, 2) := by decide +kernel
theorem dL_law_2519 : decode cL_law 2519 = .ok (.iconst 1, 1) := by decide +kernel
theorem dL_law_2520 : decode cL_law 2520 = .ok (.iadd, 1) := by decide +kernel
theorem dL_law_2521 : decode cL_law 2521 = .ok (.iaload, 1) := by decide +kernel
theorem dL_law_2522 : decode cL_law 2522 = .ok (.aload_n 0, 1) := by decide +kernel
theorem dL_law_2523 : decode cL_law 2523 = .ok (.iload 4, 2) := by decide +kernel
theorem dL_law_2525 : decode cL_law 2525 = .ok (.iconst 2, 1) := by decide +kernel
theorem dL_law_2526 : decode cL_law 2526 = .ok (.iadd, 1) := by decide +kernel
theorem dL_law_2527 : decode cL_law 2527 = .ok (.iaload, 1) := by decide +kernel
theorem dL_law_2528 : decode cL_law 2528 = .ok (.aload_n 3, 1) := by decide +kernel
theorem dL_law_2529 : decode cL_law 2529 = .ok (.invokestatic 268, 3) := by decide +kernel
theorem dL_law_2532 : decode cL_law 2532 = .ok (.istore 5, 2) := by decide +kernel
theorem dL_law_2534 : decode cL_law 2534 = .ok (.aload_n 2, 1) := by decide +kernel
theorem dL_law_2535 : decode cL_law 2535 = .ok (.aload_n 0, 1) := by decide +kernel
theorem dL_law_2536 : decode cL_law 2536 = .ok (.iload 4, 2) := by decide +kernel
theorem dL_law_2538 : decode cL_law 2538 = .ok (.iconst 1, 1) := by decide +kernel
theorem dL_law_2539 : decode cL_law 2539 = .ok (.iadd, 1) := by decide +kernel
theorem dL_law_2540 : decode cL_law 2540 = .ok (.iaload, 1) := by decide +kernel
theorem dL_law_2541 : decode cL_law 2541 = .ok (.aload_n 0, 1) := by decide +kernel
theorem dL_law_2542 : decode cL_law 2542 = .ok (.iload 4, 2) := by decide +kernel
theorem dL_law_2544 : decode cL_law 2544 = .ok (.iconst 2, 1) := by decide +kernel
theorem dL_law_2545 : decode cL_law 2545 = .ok (.iadd, 1) := by decide +kernel
theorem dL_law_2546 : decode cL_law 2546 = .ok (.iaload, 1) := by decide +kernel
theorem dL_law_2547 : decode cL_law 2547 = .ok (.invokevirtual 270, 3) := by decide +kernel
theorem dL_law_2550 : decode cL_law 2550 = .ok (.istore 6, 2) := by decide +kernel
theorem dL_law_2552 : decode cL_law 2552 = .ok (.aload_n 2, 1) := by decide +kernel
theorem dL_law_2553 : decode cL_law 2553 = .ok (.invokevirtual 141, 3) := by decide +kernel
theorem dL_law_2556 : decode cL_law 2556 = .ok (.iload 5, 2) := by decide +kernel
theorem dL_law_2558 : decode cL_law 2558 = .ok (.if_icmp .eq 5, 3) := by decide +kernel
theorem dL_law_2561 : decode cL_law 2561 = .ok (.iconst 0, 1) := by decide +kernel
theorem dL_law_2562 : decode cL_law 2562 = .ok (.ireturn, 1) := by decide +kernel
theorem dL_law_2563 : decode cL_law 2563 = .ok (.iload 5, 2) := by decide +kernel
theorem dL_law_2565 : decode cL_law 2565 = .ok (.ifCond .ne 15, 3) := by decide +kernel
theorem dL_law_2568 : decode cL_law 2568 = .ok (.aload_n 3, 1) := by decide +kernel
theorem dL_law_2569 : decode cL_law 2569 = .ok (.iconst 0, 1) := by decide +kernel
theorem dL_law_2570 : decode cL_law 2570 = .ok (.laload, 1) := by decide +kernel
theorem dL_law_2571 : decode cL_law 2571 = .ok (.iload 6, 2) := by decide +kernel
theorem dL_law_2573 : decode cL_law 2573 = .ok (.i2l, 1) := by decide +kernel
theorem dL_law_2574 : decode cL_law 2574 = .ok (.lcmp, 1) := by decide +kernel
theorem dL_law_2575 : decode cL_law 2575 = .ok (.ifCond .eq 5, 3) := by decide +kernel
theorem dL_law_2578 : decode cL_law 2578 = .ok (.iconst 0, 1) := by decide +kernel
theorem dL_law_2579 : decode cL_law 2579 = .ok (.ireturn, 1) := by decide +kernel
theorem dL_law_2580 : decode cL_law 2580 = .ok (.goto 328, 3) := by decide +kernel
theorem dL_law_2583 : decode cL_law 2583 = .ok (.aload_n 1, 1) := by decide +kernel
theorem dL_law_2584 : decode cL_law 2584 = .ok (.aload_n 0, 1) := by decide +kernel
theorem dL_law_2585 : decode cL_law 2585 = .ok (.iload 4, 2) := by decide +kernel
theorem dL_law_2587 : decode cL_law 2587 = .ok (.iconst 1, 1) := by decide +kernel
theorem dL_law_2588 : decode cL_law 2588 = .ok (.iadd, 1) := by decide +kernel
theorem dL_law_2589 : decode cL_law 2589 = .ok (.iaload, 1) := by decide +kernel
theorem dL_law_2590 : decode cL_law 2590 = .ok (.aload_n 3, 1) := by decide +kernel
theorem dL_law_2591 : decode cL_law 2591 = .ok (.invokestatic 271, 3) := by decide +kernel
theorem dL_law_2594 : decode cL_law 2594 = .ok (.istore 5, 2) := by decide +kernel
theorem dL_law_2596 : decode cL_law 2596 = .ok (.aload_n 2, 1) := by decide +kernel
theorem dL_law_2597 : decode cL_law 2597 = .ok (.aload_n 0, 1) := by decide +kernel
theorem dL_law_2598 : decode cL_law 2598 = .ok (.iload 4, 2) := by decide +kernel
theorem dL_law_2600 : decode cL_law 2600 = .ok (.iconst 1, 1) := by decide +kernel
theorem dL_law_2601 : decode cL_law 2601 = .ok (.iadd, 1) := by decide +kernel
theorem dL_law_2602 : decode cL_law 2602 = .ok (.iaload, 1) := by decide +kernel
theorem dL_law_2603 : decode cL_law 2603 = .ok (.invokevirtual 273, 3) := by decide +kernel
theorem dL_law_2606 : decode cL_law 2606 = .ok (.istore 6, 2) := by decide +kernel
theorem dL_law_2608 : decode cL_law 2608 = .ok (.aload_n 2, 1) := by decide +kernel
theorem dL_law_2609 : decode cL_law 2609 = .ok (.invokevirtual 141, 3) := by decide +kernel
theorem dL_law_2612 : decode cL_law 2612 = .ok (.iload 5, 2) := by decide +kernel
theorem dL_law_2614 : decode cL_law 2614 = .ok (.if_icmp .eq 5, 3) := by decide +kernel
theorem dL_law_2617 : decode cL_law 2617 = .ok (.iconst 0, 1) := by decide +kernel
theorem dL_law_2618 : decode cL_law 2618 = .ok (.ireturn, 1) := by decide +kernel
theorem dL_law_2619 : decode cL_law 2619 = .ok (.iload 5, 2) := by decide +kernel
theorem dL_law_2621 : decode cL_law 2621 = .ok (.ifCond .ne 15, 3) := by decide +kernel
theorem dL_law_2624 : decode cL_law 2624 = .ok (.aload_n 3, 1) := by decide +kernel
theorem dL_law_2625 : decode cL_law 2625 = .ok (.iconst 0, 1) := by decide +kernel
theorem dL_law_2626 : decode cL_law 2626 = .ok (.laload, 1) := by decide +kernel
theorem dL_law_2627 : decode cL_law 2627 = .ok (.iload 6, 2) := by decide +kernel
theorem dL_law_2629 : decode cL_law 2629 = .ok (.i2l, 1) := by decide +kernel
theorem dL_law_2630 : decode cL_law 2630 = .ok (.lcmp, 1) := by decide +kernel
theorem dL_law_2631 : decode cL_law 2631 = .ok (.ifCond .eq 5, 3) := by decide +kernel
theorem dL_law_2634 : decode cL_law 2634 = .ok (.iconst 0, 1) := by decide +kernel
theorem dL_law_2635 : decode cL_law 2635 = .ok (.ireturn, 1) := by decide +kernel
theorem dL_law_2636 : decode cL_law 2636 = .ok (.goto 272, 3) := by decide +kernel
theorem dL_law_2639 : decode cL_law 2639 = .ok (.aload_n 1, 1) := by decide +kernel
theorem dL_law_2640 : decode cL_law 2640 = .ok (.aload_n 0, 1) := by decide +kernel
theorem dL_law_2641 : decode cL_law 2641 = .ok (.iload 4, 2) := by decide +kernel
theorem dL_law_2643 : decode cL_law 2643 = .ok (.iconst 1, 1) := by decide +kernel
theorem dL_law_2644 : decode cL_law 2644 = .ok (.iadd, 1) := by decide +kernel
theorem dL_law_2645 : decode cL_law 2645 = .ok (.iaload, 1) := by decide +kernel
theorem dL_law_2646 : decode cL_law 2646 = .ok (.i2l, 1) := by decide +kernel
theorem dL_law_2647 : decode cL_law 2647 = .ok (.bipush 32, 2) := by decide +kernel
theorem dL_law_2649 : decode cL_law 2649 = .ok (.lshl, 1) := by decide +kernel
theorem dL_law_2650 : decode cL_law 2650 = .ok (.aload_n 0, 1) := by decide +kernel
theorem dL_law_2651 : decode cL_law 2651 = .ok (.iload 4, 2) := by decide +kernel
theorem dL_law_2653 : decode cL_law 2653 = .ok (.iconst 2, 1) := by decide +kernel
theorem dL_law_2654 : decode cL_law 2654 = .ok (.iadd, 1) := by decide +kernel
theorem dL_law_2655 : decode cL_law 2655 = .ok (.iaload, 1) := by decide +kernel
theorem dL_law_2656 : decode cL_law 2656 = .ok (.i2l, 1) := by decide +kernel
theorem dL_law_2657 : decode cL_law 2657 = .ok (.ldc2_w 274, 3) := by decide +kernel
theorem dL_law_2660 : decode cL_law 2660 = .ok (.land, 1) := by decide +kernel
theorem dL_law_2661 : decode cL_law 2661 = .ok (.lor, 1) := by decide +kernel
theorem dL_law_2662 : decode cL_law 2662 = .ok (.aload_n 3, 1) := by decide +kernel
theorem dL_law_2663 : decode cL_law 2663 = .ok (.invokestatic 276, 3) := by decide +kernel
theorem dL_law_2666 : decode cL_law 2666 = .ok (.istore 5, 2) := by decide +kernel
theorem dL_law_2668 : decode cL_law 2668 = .ok (.aload_n 2, 1) := by decide +kernel
theorem dL_law_2669 : decode cL_law 2669 = .ok (.aload_n 0, 1) := by decide +kernel
theorem dL_law_2670 : decode cL_law 2670 = .ok (.iload 4, 2) := by decide +kernel
theorem dL_law_2672 : decode cL_law 2672 = .ok (.iconst 1, 1) := by decide +kernel
theorem dL_law_2673 : decode cL_law 2673 = .ok (.iadd, 1) := by decide +kernel
theorem dL_law_2674 : decode cL_law 2674 = .ok (.iaload, 1) := by decide +kernel
theorem dL_law_2675 : decode cL_law 2675 = .ok (.i2l, 1) := by decide +kernel
theorem dL_law_2676 : decode cL_law 2676 = .ok (.bipush 32, 2) := by decide +kernel
theorem dL_law_2678 : decode cL_law 2678 = .ok (.lshl, 1) := by decide +kernel
theorem dL_law_2679 : decode cL_law 2679 = .ok (.aload_n 0, 1) := by decide +kernel
theorem dL_law_2680 : decode cL_law 2680 = .ok (.iload 4, 2) := by decide +kernel
theorem dL_law_2682 : decode cL_law 2682 = .ok (.iconst 2, 1) := by decide +kernel
theorem dL_law_2683 : decode cL_law 2683 = .ok (.iadd, 1) := by decide +kernel
theorem dL_law_2684 : decode cL_law 2684 = .ok (.iaload, 1) := by decide +kernel
theorem dL_law_2685 : decode cL_law 2685 = .ok (.i2l, 1) := by decide +kernel
theorem dL_law_2686 : decode cL_law 2686 = .ok (.ldc2_w 274, 3) := by decide +kernel
theorem dL_law_2689 : decode cL_law 2689 = .ok (.land, 1) := by decide +kernel
theorem dL_law_2690 : decode cL_law 2690 = .ok (.lor, 1) := by decide +kernel
theorem dL_law_2691 : decode cL_law 2691 = .ok (.invokevirtual 279, 3) := by decide +kernel
theorem dL_law_2694 : decode cL_law 2694 = .ok (.istore 6, 2) := by decide +kernel
theorem dL_law_2696 : decode cL_law 2696 = .ok (.aload_n 2, 1) := by decide +kernel
theorem dL_law_2697 : decode cL_law 2697 = .ok (.invokevirtual 141, 3) := by decide +kernel
theorem dL_law_2700 : decode cL_law 2700 = .ok (.iload 5, 2) := by decide +kernel
theorem dL_law_2702 : decode cL_law 2702 = .ok (.if_icmp .eq 5, 3) := by decide +kernel
theorem dL_law_2705 : decode cL_law 2705 = .ok (.iconst 0, 1) := by decide +kernel
theorem dL_law_2706 : decode cL_law 2706 = .ok (.ireturn, 1) := by decide +kernel
theorem dL_law_2707 : decode cL_law 2707 = .ok (.iload 5, 2) := by decide +kernel
theorem dL_law_2709 : decode cL_law 2709 = .ok (.ifCond .ne 15, 3) := by decide +kernel
theorem dL_law_2712 : decode cL_law 2712 = .ok (.aload_n 3, 1) := by decide +kernel
theorem dL_law_2713 : decode cL_law 2713 = .ok (.iconst 0, 1) := by decide +kernel
theorem dL_law_2714 : decode cL_law 2714 = .ok (.laload, 1) := by decide +kernel
theorem dL_law_2715 : decode cL_law 2715 = .ok (.iload 6, 2) := by decide +kernel
theorem dL_law_2717 : decode cL_law 2717 = .ok (.i2l, 1) := by decide +kernel
theorem dL_law_2718 : decode cL_law 2718 = .ok (.lcmp, 1) := by decide +kernel
theorem dL_law_2719 : decode cL_law 2719 = .ok (.ifCond .eq 5, 3) := by decide +kernel
theorem dL_law_2722 : decode cL_law 2722 = .ok (.iconst 0, 1) := by decide +kernel
theorem dL_law_2723 : decode cL_law 2723 = .ok (.ireturn, 1) := by decide +kernel
theorem dL_law_2724 : decode cL_law 2724 = .ok (.goto 184, 3) := by decide +kernel
theorem dL_law_2727 : decode cL_law 2727 = .ok (.aload_n 1, 1) := by decide +kernel
theorem dL_law_2728 : decode cL_law 2728 = .ok (.invokevirtual 280, 3) := by decide +kernel
theorem dL_law_2731 : decode cL_law 2731 = .ok (.aload_n 2, 1) := by decide +kernel
theorem dL_law_2732 : decode cL_law 2732 = .ok (.invokevirtual 283, 3) := by decide +kernel
theorem dL_law_2735 : decode cL_law 2735 = .ok (.if_icmp .eq 173, 3) := by decide +kernel
theorem dL_law_2738 : decode cL_law 2738 = .ok (.iconst 0, 1) := by decide +kernel
theorem dL_law_2739 : decode cL_law 2739 = .ok (.ireturn, 1) := by decide +kernel
theorem dL_law_2740 : decode cL_law 2740 = .ok (.aload_n 1, 1) := by decide +kernel
theorem dL_law_2741 : decode cL_law 2741 = .ok (.aload_n 3, 1) := by decide +kernel
theorem dL_law_2742 : decode cL_law 2742 = .ok (.invokestatic 284, 3) := by decide +kernel
theorem dL_law_2745 : decode cL_law 2745 = .ok (.istore 5, 2) := by decide +kernel
theorem dL_law_2747 : decode cL_law 2747 = .ok (.aload_n 2, 1) := by decide +kernel
theorem dL_law_2748 : decode cL_law 2748 = .ok (.invokevirtual 287, 3) := by decide +kernel
theorem dL_law_2751 : decode cL_law 2751 = .ok (.istore 6, 2) := by decide +kernel
theorem dL_law_2753 : decode cL_law 2753 = .ok (.aload_n 2, 1) := by decide +kernel
theorem dL_law_2754 : decode cL_law 2754 = .ok (.invokevirtual 141, 3) := by decide +kernel
theorem dL_law_2757 : decode cL_law 2757 = .ok (.iload 5, 2) := by decide +kernel
theorem dL_law_2759 : decode cL_law 2759 = .ok (.if_icmp .eq 5, 3) := by decide +kernel
theorem dL_law_2762 : decode cL_law 2762 = .ok (.iconst 0, 1) := by decide +kernel
theorem dL_law_2763 : decode cL_law 2763 = .ok (.ireturn, 1) := by decide +kernel
theorem dL_law_2764 : decode cL_law 2764 = .ok (.iload 5, 2) := by decide +kernel
theorem dL_law_2766 : decode cL_law 2766 = .ok (.ifCond .ne 15, 3) := by decide +kernel
theorem dL_law_2769 : decode cL_law 2769 = .ok (.aload_n 3, 1) := by decide +kernel
theorem dL_law_2770 : decode cL_law 2770 = .ok (.iconst 0, 1) := by decide +kernel
theorem dL_law_2771 : decode cL_law 2771 = .ok (.laload, 1) := by decide +kernel
theorem dL_law_2772 : decode cL_law 2772 = .ok (.iload 6, 2) := by decide +kernel
theorem dL_law_2774 : decode cL_law 2774 = .ok (.i2l, 1) := by decide +kernel
theorem dL_law_2775 : decode cL_law 2775 = .ok (.lcmp, 1) := by decide +kernel
theorem dL_law_2776 : decode cL_law 2776 = .ok (.ifCond .eq 5, 3) := by decide +kernel
theorem dL_law_2779 : decode cL_law 2779 = .ok (.iconst 0, 1) := by decide +kernel
theorem dL_law_2780 : decode cL_law 2780 = .ok (.ireturn, 1) := by decide +kernel
theorem dL_law_2781 : decode cL_law 2781 = .ok (.goto 127, 3) := by decide +kernel
theorem dL_law_2784 : decode cL_law 2784 = .ok (.aload_n 1, 1) := by decide +kernel
theorem dL_law_2785 : decode cL_law 2785 = .ok (.invokevirtual 288, 3) := by decide +kernel
theorem dL_law_2788 : decode cL_law 2788 = .ok (.aload_n 2, 1) := by decide +kernel
theorem dL_law_2789 : decode cL_law 2789 = .ok (.invokevirtual 291, 3) := by decide +kernel
theorem dL_law_2792 : decode cL_law 2792 = .ok (.if_icmp .eq 116, 3) := by decide +kernel
theorem dL_law_2795 : decode cL_law 2795 = .ok (.iconst 0, 1) := by decide +kernel
theorem dL_law_2796 : decode cL_law 2796 = .ok (.ireturn, 1) := by decide +kernel
theorem dL_law_2797 : decode cL_law 2797 = .ok (.aload_n 1, 1) := by decide +kernel
theorem dL_law_2798 : decode cL_law 2798 = .ok (.invokevirtual 292, 3) := by decide +kernel
theorem dL_law_2801 : decode cL_law 2801 = .ok (.dstore 5, 2) := by decide +kernel
theorem dL_law_2803 : decode cL_law 2803 = .ok (.aload_n 2, 1) := by decide +kernel
theorem dL_law_2804 : decode cL_law 2804 = .ok (.invokevirtual 296, 3) := by decide +kernel
theorem dL_law_2807 : decode cL_law 2807 = .ok (.dstore 7, 2) := by decide +kernel
theorem dL_law_2809 : decode cL_law 2809 = .ok (.dload 5, 2) := by decide +kernel
theorem dL_law_2811 : decode cL_law 2811 = .ok (.dload 7, 2) := by decide +kernel
theorem dL_law_2813 : decode cL_law 2813 = .ok (.dcmp .l, 1) := by decide +kernel
theorem dL_law_2814 : decode cL_law 2814 = .ok (.ifCond .eq 21, 3) := by decide +kernel
theorem dL_law_2817 : decode cL_law 2817 = .ok (.dload 5, 2) := by decide +kernel
theorem dL_law_2819 : decode cL_law 2819 = .ok (.dload 5, 2) := by decide +kernel
theorem dL_law_2821 : decode cL_law 2821 = .ok (.dcmp .l, 1) := by decide +kernel
theorem dL_law_2822 : decode cL_law 2822 = .ok (.ifCond .eq 11, 3) := by decide +kernel
theorem dL_law_2825 : decode cL_law 2825 = .ok (.dload 7, 2) := by decide +kernel
theorem dL_law_2827 : decode cL_law 2827 = .ok (.dload 7, 2) := by decide +kernel
theorem dL_law_2829 : decode cL_law 2829 = .ok (.dcmp .l, 1) := by decide +kernel
theorem dL_law_2830 : decode cL_law 2830 = .ok (.ifCond .ne 5, 3) := by decide +kernel
theorem dL_law_2833 : decode cL_law 2833 = .ok (.iconst 0, 1) := by decide +kernel
theorem dL_law_2834 : decode cL_law 2834 = .ok (.ireturn, 1) := by decide +kernel
theorem dL_law_2835 : decode cL_law 2835 = .ok (.goto 73, 3) := by decide +kernel
theorem dL_law_2838 : decode cL_law 2838 = .ok (.aload_n 1, 1) := by decide +kernel
theorem dL_law_2839 : decode cL_law 2839 = .ok (.invokevirtual 297, 3) := by decide +kernel
theorem dL_law_2842 : decode cL_law 2842 = .ok (.f2d, 1) := by decide +kernel
theorem dL_law_2843 : decode cL_law 2843 = .ok (.dstore 5, 2) := by decide +kernel
theorem dL_law_2845 : decode cL_law 2845 = .ok (.aload_n 2, 1) := by decide +kernel
theorem dL_law_2846 : decode cL_law 2846 = .ok (.invokevirtual 301, 3) := by decide +kernel
theorem dL_law_2849 : decode cL_law 2849 = .ok (.f2d, 1) := by decide +kernel
theorem dL_law_2850 : decode cL_law 2850 = .ok (.dstore 7, 2) := by decide +kernel
theorem dL_law_2852 : decode cL_law 2852 = .ok (.dload 5, 2) := by decide +kernel
theorem dL_law_2854 : decode cL_law 2854 = .ok (.dload 7, 2) := by decide +kernel
theorem dL_law_2856 : decode cL_law 2856 = .ok (.dcmp .l, 1) := by decide +kernel
theorem dL_law_2857 : decode cL_law 2857 = .ok (.ifCond .eq 21, 3) := by decide +kernel
theorem dL_law_2860 : decode cL_law 2860 = .ok (.dload 5, 2) := by decide +kernel
theorem dL_law_2862 : decode cL_law 2862 = .ok (.dload 5, 2) := by decide +kernel
theorem dL_law_2864 : decode cL_law 2864 = .ok (.dcmp .l, 1) := by decide +kernel
theorem dL_law_2865 : decode cL_law 2865 = .ok (.ifCond .eq 11, 3) := by decide +kernel
theorem dL_law_2868 : decode cL_law 2868 = .ok (.dload 7, 2) := by decide +kernel
theorem dL_law_2870 : decode cL_law 2870 = .ok (.dload 7, 2) := by decide +kernel
theorem dL_law_2872 : decode cL_law 2872 = .ok (.dcmp .l, 1) := by decide +kernel
theorem dL_law_2873 : decode cL_law 2873 = .ok (.ifCond .ne 5, 3) := by decide +kernel
theorem dL_law_2876 : decode cL_law 2876 = .ok (.iconst 0, 1) := by decide +kernel
theorem dL_law_2877 : decode cL_law 2877 = .ok (.ireturn, 1) := by decide +kernel
theorem dL_law_2878 : decode cL_law 2878 = .ok (.goto 30, 3) := by decide +kernel
theorem dL_law_2881 : decode cL_law 2881 = .ok (.aload_n 1, 1) := by decide +kernel
theorem dL_law_2882 : decode cL_law 2882 = .ok (.invokevirtual 302, 3) := by decide +kernel
theorem dL_law_2885 : decode cL_law 2885 = .ok (.aload_n 2, 1) := by decide +kernel
theorem dL_law_2886 : decode cL_law 2886 = .ok (.invokevirtual 306, 3) := by decide +kernel
theorem dL_law_2889 : decode cL_law 2889 = .ok (.lcmp, 1) := by decide +kernel
theorem dL_law_2890 : decode cL_law 2890 = .ok (.ifCond .eq 18, 3) := by decide +kernel
theorem dL_law_2893 : decode cL_law 2893 = .ok (.iconst 0, 1) := by decide +kernel
theorem dL_law_2894 : decode cL_law 2894 = .ok (.ireturn, 1) := by decide +kernel
theorem dL_law_2895 : decode cL_law 2895 = .ok (.aload_n 1, 1) := by decide +kernel
theorem dL_law_2896 : decode cL_law 2896 = .ok (.invokevirtual 307, 3) := by decide +kernel
theorem dL_law_2899 : decode cL_law 2899 = .ok (.aload_n 2, 1) := by decide +kernel
theorem dL_law_2900 : decode cL_law 2900 = .ok (.invokevirtual 310, 3) := by decide +kernel
theorem dL_law_2903 : decode cL_law 2903 = .ok (.if_icmp .eq 5, 3) := by decide +kernel
theorem dL_law_2906 : decode cL_law 2906 = .ok (.iconst 0, 1) := by decide +kernel
theorem dL_law_2907 : decode cL_law 2907 = .ok (.ireturn, 1) := by decide +kernel
theorem dL_law_2908 : decode cL_law 2908 = .ok (.iinc 4 6, 3) := by decide +kernel
theorem dL_law_2911 : decode cL_law 2911 = .ok (.goto (-2888), 3) := by decide +kernel
theorem dL_law_2914 : decode cL_law 2914 = .ok (.iconst 1, 1) := by decide +kernel
theorem dL_law_2915 : decode cL_law 2915 = .ok (.ireturn, 1) := by decide +kernel


