theorem dL_law_2720 : decode cL_law 2720 = .ok (.aload_n 3, 1) := by decide +kernel
theorem dL_law_2721 : decode cL_law 2721 = .ok (.invokestatic 343, 3) := by decide +kernel
theorem dL_law_2724 : decode cL_law 2724 = .ok (.istore 6, 2) := by decide +kernel
theorem dL_law_2726 : decode cL_law 2726 = .ok (.aload_n 2, 1) := by decide +kernel
theorem dL_law_2727 : decode cL_law 2727 = .ok (.invokevirtual 345, 3) := by decide +kernel
theorem dL_law_2730 : decode cL_law 2730 = .ok (.istore 7, 2) := by decide +kernel
theorem dL_law_2732 : decode cL_law 2732 = .ok (.aload_n 2, 1) := by decide +kernel
theorem dL_law_2733 : decode cL_law 2733 = .ok (.invokevirtual 165, 3) := by decide +kernel
theorem dL_law_2736 : decode cL_law 2736 = .ok (.iload 6, 2) := by decide +kernel
theorem dL_law_2738 : decode cL_law 2738 = .ok (.if_icmp .eq 5, 3) := by decide +kernel
theorem dL_law_2741 : decode cL_law 2741 = .ok (.iconst 0, 1) := by decide +kernel
theorem dL_law_2742 : decode cL_law 2742 = .ok (.ireturn, 1) := by decide +kernel
theorem dL_law_2743 : decode cL_law 2743 = .ok (.iload 6, 2) := by decide +kernel
theorem dL_law_2745 : decode cL_law 2745 = .ok (.ifCond .ne 15, 3) := by decide +kernel
theorem dL_law_2748 : decode cL_law 2748 = .ok (.aload_n 3, 1) := by decide +kernel
theorem dL_law_2749 : decode cL_law 2749 = .ok (.iconst 0, 1) := by decide +kernel
theorem dL_law_2750 : decode cL_law 2750 = .ok (.laload, 1) := by decide +kernel
theorem dL_law_2751 : decode cL_law 2751 = .ok (.iload 7, 2) := by decide +kernel
theorem dL_law_2753 : decode cL_law 2753 = .ok (.i2l, 1) := by decide +kernel
theorem dL_law_2754 : decode cL_law 2754 = .ok (.lcmp, 1) := by decide +kernel
theorem dL_law_2755 : decode cL_law 2755 = .ok (.ifCond .eq 5, 3) := by decide +kernel
theorem dL_law_2758 : decode cL_law 2758 = .ok (.iconst 0, 1) := by decide +kernel
theorem dL_law_2759 : decode cL_law 2759 = .ok (.ireturn, 1) := by decide +kernel
theorem dL_law_2760 : decode cL_law 2760 = .ok (.goto 104, 3) := by decide +kernel
theorem dL_law_2763 : decode cL_law 2763 = .ok (.aload_n 1, 1) := by decide +kernel
theorem dL_law_2764 : decode cL_law 2764 = .ok (.aload_n 3, 1) := by decide +kernel
theorem dL_law_2765 : decode cL_law 2765 = .ok (.invokestatic 346, 3) := by decide +kernel
theorem dL_law_2768 : decode cL_law 2768 = .ok (.istore 6, 2) := by decide +kernel
theorem dL_law_2770 : decode cL_law 2770 = .ok (.aload_n 2, 1) := by decide +kernel
theorem dL_law_2771 : decode cL_law 2771 = .ok (.invokevirtual 348, 3) := by decide +kernel
theorem dL_law_2774 : decode cL_law 2774 = .ok (.istore 7, 2) := by decide +kernel
theorem dL_law_2776 : decode cL_law 2776 = .ok (.aload_n 2, 1) := by decide +kernel
theorem dL_law_2777 : decode cL_law 2777 = .ok (.invokevirtual 165, 3) := by decide +kernel
theorem dL_law_2780 : decode cL_law 2780 = .ok (.iload 6, 2) := by decide +kernel
theorem dL_law_2782 : decode cL_law 2782 = .ok (.if_icmp .eq 5, 3) := by decide +kernel
theorem dL_law_2785 : decode cL_law 2785 = .ok (.iconst 0, 1) := by decide +kernel
theorem dL_law_2786 : decode cL_law 2786 = .ok (.ireturn, 1) := by decide +kernel
theorem dL_law_2787 : decode cL_law 2787 = .ok (.iload 6, 2) := by decide +kernel
theorem dL_law_2789 : decode cL_law 2789 = .ok (.ifCond .ne 15, 3) := by decide +kernel
theorem dL_law_2792 : decode cL_law 2792 = .ok (.aload_n 3, 1) := by decide +kernel
theorem dL_law_2793 : decode cL_law 2793 = .ok (.iconst 0, 1) := by decide +kernel
theorem dL_law_2794 : decode cL_law 2794 = .ok (.laload, 1) := by decide +kernel
theorem dL_law_2795 : decode cL_law 2795 = .ok (.iload 7, 2) := by decide +kernel
theorem dL_law_2797 : decode cL_law 2797 = .ok (.i2l, 1) := by decide +kernel
theorem dL_law_2798 : decode cL_law 2798 = .ok (.lcmp, 1) := by decide +kernel
theorem dL_law_2799 : decode cL_law 2799 = .ok (.ifCond .eq 5, 3) := by decide +kernel
theorem dL_law_2802 : decode cL_law 2802 = .ok (.iconst 0, 1) := by decide +kernel
theorem dL_law_2803 : decode cL_law 2803 = .ok (.ireturn, 1) := by decide +kernel
theorem dL_law_2804 : decode cL_law 2804 = .ok (.goto 60, 3) := by decide +kernel
theorem dL_law_2807 : decode cL_law 2807 = .ok (.aload_n 1, 1) := by decide +kernel
theorem dL_law_2808 : decode cL_law 2808 = .ok (.invokevirtual 349, 3) := by decide +kernel
theorem dL_law_2811 : decode cL_law 2811 = .ok (.aload_n 2, 1) := by decide +kernel
theorem dL_law_2812 : decode cL_law 2812 = .ok (.invokevirtual 352, 3) := by decide +kernel
theorem dL_law_2815 : decode cL_law 2815 = .ok (.if_icmp .eq 49, 3) := by decide +kernel
theorem dL_law_2818 : decode cL_law 2818 = .ok (.iconst 0, 1) := by decide +kernel
theorem dL_law_2819 : decode cL_law 2819 = .ok (.ireturn, 1) := by decide +kernel
theorem dL_law_2820 : decode cL_law 2820 = .ok (.aload_n 1, 1) := by decide +kernel
theorem dL_law_2821 : decode cL_law 2821 = .ok (.aload_n 3, 1) := by decide +kernel
theorem dL_law_2822 : decode cL_law 2822 = .ok (.invokestatic 353, 3) := by decide +kernel
theorem dL_law_2825 : decode cL_law 2825 = .ok (.istore 6, 2) := by decide +kernel
theorem dL_law_2827 : decode cL_law 2827 = .ok (.aload_n 2, 1) := by decide +kernel
theorem dL_law_2828 : decode cL_law 2828 = .ok (.invokevirtual 355, 3) := by decide +kernel
theorem dL_law_2831 : decode cL_law 2831 = .ok (.istore 7, 2) := by decide +kernel
theorem dL_law_2833 : decode cL_law 2833 = .ok (.aload_n 2, 1) := by decide +kernel
theorem dL_law_2834 : decode cL_law 2834 = .ok (.invokevirtual 165, 3) := by decide +kernel
theorem dL_law_2837 : decode cL_law 2837 = .ok (.iload 6, 2) := by decide +kernel
theorem dL_law_2839 : decode cL_law 2839 = .ok (.if_icmp .eq 5, 3) := by decide +kernel
theorem dL_law_2842 : decode cL_law 2842 = .ok (.iconst 0, 1) := by decide +kernel
theorem dL_law_2843 : decode cL_law 2843 = .ok (.ireturn, 1) := by decide +kernel
theorem dL_law_2844 : decode cL_law 2844 = .ok (.iload 6, 2) := by decide +kernel
theorem dL_law_2846 : decode cL_law 2846 = .ok (.ifCond .ne 15, 3) := by decide +kernel
theorem dL_law_2849 : decode cL_law 2849 = .ok (.aload_n 3, 1) := by decide +kernel
theorem dL_law_2850 : decode cL_law 2850 = .ok (.iconst 0, 1) := by decide +kernel
theorem dL_law_2851 : decode cL_law 2851 = .ok (.laload, 1) := by decide +kernel
theorem dL_law_2852 : decode cL_law 2852 = .ok (.iload 7, 2) := by decide +kernel
theorem dL_law_2854 : decode cL_law 2854 = .ok (.i2l, 1) := by decide +kernel
theorem dL_law_2855 : decode cL_law 2855 = .ok (.lcmp, 1) := by decide +kernel
theorem dL_law_2856 : decode cL_law 2856 = .ok (.ifCond .eq 5, 3) := by decide +kernel
theorem dL_law_2859 : decode cL_law 2859 = .ok (.iconst 0, 1) := by decide +kernel
theorem dL_law_2860 : decode cL_law 2860 = .ok (.ireturn, 1) := by decide +kernel
theorem dL_law_2861 : decode cL_law 2861 = .ok (.goto 3, 3) := by decide +kernel
theorem dL_law_2864 : decode cL_law 2864 = .ok (.iinc 5 5, 3) := by decide +kernel
theorem dL_law_2867 : decode cL_law 2867 = .ok (.goto (-2839), 3) := by decide +kernel
theorem dL_law_2870 : decode cL_law 2870 = .ok (.iconst 1, 1) := by decide +kernel
theorem dL_law_2871 : decode cL_law 2871 = .ok (.ireturn, 1) := by decide +kernel
