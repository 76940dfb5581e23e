theorem dL_law__2600 : decode cL_law_ 2600 = .ok (.iadd, 1) := by decide +kernel
theorem dL_law__2601 : decode cL_law_ 2601 = .ok (.iaload, 1) := by decide +kernel
theorem dL_law__2602 : decode cL_law_ 2602 = .ok (.aload_n 3, 1) := by decide +kernel
theorem dL_law__2603 : decode cL_law_ 2603 = .ok (.invokestatic 290, 3) := by decide +kernel
theorem dL_law__2606 : decode cL_law_ 2606 = .ok (.istore 5, 2) := by decide +kernel
theorem dL_law__2608 : decode cL_law_ 2608 = .ok (.aload_n 2, 1) := by decide +kernel
theorem dL_law__2609 : decode cL_law_ 2609 = .ok (.aload_n 0, 1) := by decide +kernel
theorem dL_law__2610 : decode cL_law_ 2610 = .ok (.iload 4, 2) := by decide +kernel
theorem dL_law__2612 : decode cL_law_ 2612 = .ok (.iconst 1, 1) := by decide +kernel
theorem dL_law__2613 : decode cL_law_ 2613 = .ok (.iadd, 1) := by decide +kernel
theorem dL_law__2614 : decode cL_law_ 2614 = .ok (.iaload, 1) := by decide +kernel
theorem dL_law__2615 : decode cL_law_ 2615 = .ok (.invokevirtual 292, 3) := by decide +kernel
theorem dL_law__2618 : decode cL_law_ 2618 = .ok (.istore 6, 2) := by decide +kernel
theorem dL_law__2620 : decode cL_law_ 2620 = .ok (.aload_n 2, 1) := by decide +kernel
theorem dL_law__2621 : decode cL_law_ 2621 = .ok (.invokevirtual 166, 3) := by decide +kernel
theorem dL_law__2624 : decode cL_law_ 2624 = .ok (.iload 5, 2) := by decide +kernel
theorem dL_law__2626 : decode cL_law_ 2626 = .ok (.if_icmp .eq 5, 3) := by decide +kernel
theorem dL_law__2629 : decode cL_law_ 2629 = .ok (.iconst 0, 1) := by decide +kernel
theorem dL_law__2630 : decode cL_law_ 2630 = .ok (.ireturn, 1) := by decide +kernel
theorem dL_law__2631 : decode cL_law_ 2631 = .ok (.iload 5, 2) := by decide +kernel
theorem dL_law__2633 : decode cL_law_ 2633 = .ok (.ifCond .ne 15, 3) := by decide +kernel
theorem dL_law__2636 : decode cL_law_ 2636 = .ok (.aload_n 3, 1) := by decide +kernel
theorem dL_law__2637 : decode cL_law_ 2637 = .ok (.iconst 0, 1) := by decide +kernel
theorem dL_law__2638 : decode cL_law_ 2638 = .ok (.laload, 1) := by decide +kernel
theorem dL_law__2639 : decode cL_law_ 2639 = .ok (.iload 6, 2) := by decide +kernel
theorem dL_law__2641 : decode cL_law_ 2641 = .ok (.i2l, 1) := by decide +kernel
theorem dL_law__2642 : decode cL_law_ 2642 = .ok (.lcmp, 1) := by decide +kernel
theorem dL_law__2643 : decode cL_law_ 2643 = .ok (.ifCond .eq 5, 3) := by decide +kernel
theorem dL_law__2646 : decode cL_law_ 2646 = .ok (.iconst 0, 1) := by decide +kernel
theorem dL_law__2647 : decode cL_law_ 2647 = .ok (.ireturn, 1) := by decide +kernel
theorem dL_law__2648 : decode cL_law_ 2648 = .ok (.goto 870, 3) := by decide +kernel
theorem dL_law__2651 : decode cL_law_ 2651 = .ok (.aload_n 1, 1) := by decide +kernel
theorem dL_law__2652 : decode cL_law_ 2652 = .ok (.invokevirtual 293, 3) := by decide +kernel
theorem dL_law__2655 : decode cL_law_ 2655 = .ok (.aload_n 2, 1) := by decide +kernel
theorem dL_law__2656 : decode cL_law_ 2656 = .ok (.invokevirtual 296, 3) := by decide +kernel
theorem dL_law__2659 : decode cL_law_ 2659 = .ok (.if_icmp .eq 859, 3) := by decide +kernel
theorem dL_law__2662 : decode cL_law_ 2662 = .ok (.iconst 0, 1) := by decide +kernel
theorem dL_law__2663 : decode cL_law_ 2663 = .ok (.ireturn, 1) := by decide +kernel
theorem dL_law__2664 : decode cL_law_ 2664 = .ok (.aload_n 1, 1) := by decide +kernel
theorem dL_law__2665 : decode cL_law_ 2665 = .ok (.aload_n 0, 1) := by decide +kernel
theorem dL_law__2666 : decode cL_law_ 2666 = .ok (.iload 4, 2) := by decide +kernel
theorem dL_law__2668 : decode cL_law_ 2668 = .ok (.iconst 1, 1) := by decide +kernel
theorem dL_law__2669 : decode cL_law_ 2669 = .ok (.iadd, 1) := by decide +kernel
theorem dL_law__2670 : decode cL_law_ 2670 = .ok (.iaload, 1) := by decide +kernel
theorem dL_law__2671 : decode cL_law_ 2671 = .ok (.aload_n 0, 1) := by decide +kernel
theorem dL_law__2672 : decode cL_law_ 2672 = .ok (.iload 4, 2) := by decide +kernel
theorem dL_law__2674 : decode cL_law_ 2674 = .ok (.iconst 2, 1) := by decide +kernel
theorem dL_law__2675 : decode cL_law_ 2675 = .ok (.iadd, 1) := by decide +kernel
theorem dL_law__2676 : decode cL_law_ 2676 = .ok (.iaload, 1) := by decide +kernel
theorem dL_law__2677 : decode cL_law_ 2677 = .ok (.aload_n 3, 1) := by decide +kernel
theorem dL_law__2678 : decode cL_law_ 2678 = .ok (.invokestatic 297, 3) := by decide +kernel
theorem dL_law__2681 : decode cL_law_ 2681 = .ok (.istore 5, 2) := by decide +kernel
theorem dL_law__2683 : decode cL_law_ 2683 = .ok (.aload_n 2, 1) := by decide +kernel
theorem dL_law__2684 : decode cL_law_ 2684 = .ok (.aload_n 0, 1) := by decide +kernel
theorem dL_law__2685 : decode cL_law_ 2685 = .ok (.iload 4, 2) := by decide +kernel
theorem dL_law__2687 : decode cL_law_ 2687 = .ok (.iconst 1, 1) := by decide +kernel
theorem dL_law__2688 : decode cL_law_ 2688 = .ok (.iadd, 1) := by decide +kernel
theorem dL_law__2689 : decode cL_law_ 2689 = .ok (.iaload, 1) := by decide +kernel
theorem dL_law__2690 : decode cL_law_ 2690 = .ok (.aload_n 0, 1) := by decide +kernel
theorem dL_law__2691 : decode cL_law_ 2691 = .ok (.iload 4, 2) := by decide +kernel
theorem dL_law__2693 : decode cL_law_ 2693 = .ok (.iconst 2, 1) := by decide +kernel
theorem dL_law__2694 : decode cL_law_ 2694 = .ok (.iadd, 1) := by decide +kernel
theorem dL_law__2695 : decode cL_law_ 2695 = .ok (.iaload, 1) := by decide +kernel
theorem dL_law__2696 : decode cL_law_ 2696 = .ok (.invokevirtual 299, 3) := by decide +kernel
theorem dL_law__2699 : decode cL_law_ 2699 = .ok (.istore 6, 2) := by decide +kernel
theorem dL_law__2701 : decode cL_law_ 2701 = .ok (.aload_n 2, 1) := by decide +kernel
theorem dL_law__2702 : decode cL_law_ 2702 = .ok (.invokevirtual 166, 3) := by decide +kernel
theorem dL_law__2705 : decode cL_law_ 2705 = .ok (.iload 5, 2) := by decide +kernel
theorem dL_law__2707 : decode cL_law_ 2707 = .ok (.if_icmp .eq 5, 3) := by decide +kernel
theorem dL_law__2710 : decode cL_law_ 2710 = .ok (.iconst 0, 1) := by decide +kernel
theorem dL_law__2711 : decode cL_law_ 2711 = .ok (.ireturn, 1) := by decide +kernel
theorem dL_law__2712 : decode cL_law_ 2712 = .ok (.iload 5, 2) := by decide +kernel
theorem dL_law__2714 : decode cL_law_ 2714 = .ok (.ifCond .ne 15, 3) := by decide +kernel
theorem dL_law__2717 : decode cL_law_ 2717 = .ok (.aload_n 3, 1) := by decide +kernel
theorem dL_law__2718 : decode cL_law_ 2718 = .ok (.iconst 0, 1) := by decide +kernel
theorem dL_law__2719 : decode cL_law_ 2719 = .ok (.laload, 1) := by decide +kernel
theorem dL_law__2720 : decode cL_law_ 2720 = .ok (.iload 6, 2) := by decide +kernel
theorem dL_law__2722 : decode cL_law_ 2722 = .ok (.i2l, 1) := by decide +kernel
theorem dL_law__2723 : decode cL_law_ 2723 = .ok (.lcmp, 1) := by decide +kernel
theorem dL_law__2724 : decode cL_law_ 2724 = .ok (.ifCond .eq 5, 3) := by decide +kernel
theorem dL_law__2727 : decode cL_law_ 2727 = .ok (.iconst 0, 1) := by decide +kernel
theorem dL_law__2728 : decode cL_law_ 2728 = .ok (.ireturn, 1) := by decide +kernel
theorem dL_law__2729 : decode cL_law_ 2729 = .ok (.goto 789, 3) := by decide +kernel
theorem dL_law__2732 : decode cL_law_ 2732 = .ok (.aload_n 1, 1) := by decide +kernel
theorem dL_law__2733 : decode cL_law_ 2733 = .ok (.aload_n 0, 1) := by decide +kernel
theorem dL_law__2734 : decode cL_law_ 2734 = .ok (.iload 4, 2) := by decide +kernel
theorem dL_law__2736 : decode cL_law_ 2736 = .ok (.iconst 1, 1) := by decide +kernel
theorem dL_law__2737 : decode cL_law_ 2737 = .ok (.iadd, 1) := by decide +kernel
theorem dL_law__2738 : decode cL_law_ 2738 = .ok (.iaload, 1) := by decide +kernel
theorem dL_law__2739 : decode cL_law_ 2739 = .ok (.aload_n 3, 1) := by decide +kernel
theorem dL_law__2740 : decode cL_law_ 2740 = .ok (.invokestatic 300, 3) := by decide +kernel
theorem dL_law__2743 : decode cL_law_ 2743 = .ok (.istore 5, 2) := by decide +kernel
theorem dL_law__2745 : decode cL_law_ 2745 = .ok (.aload_n 2, 1) := by decide +kernel
theorem dL_law__2746 : decode cL_law_ 2746 = .ok (.aload_n 0, 1) := by decide +kernel
theorem dL_law__2747 : decode cL_law_ 2747 = .ok (.iload 4, 2) := by decide +kernel
theorem dL_law__2749 : decode cL_law_ 2749 = .ok (.iconst 1, 1) := by decide +kernel
theorem dL_law__2750 : decode cL_law_ 2750 = .ok (.iadd, 1) := by decide +kernel
theorem dL_law__2751 : decode cL_law_ 2751 = .ok (.iaload, 1) := by decide +kernel
theorem dL_law__2752 : decode cL_law_ 2752 = .ok (.invokevirtual 302, 3) := by decide +kernel
theorem dL_law__2755 : decode cL_law_ 2755 = .ok (.istore 6, 2) := by decide +kernel
theorem dL_law__2757 : decode cL_law_ 2757 = .ok (.aload_n 2, 1) := by decide +kernel
theorem dL_law__2758 : decode cL_law_ 2758 = .ok (.invokevirtual 166, 3) := by decide +kernel
theorem dL_law__2761 : decode cL_law_ 2761 = .ok (.iload 5, 2) := by decide +kernel
theorem dL_law__2763 : decode cL_law_ 2763 = .ok (.if_icmp .eq 5, 3) := by decide +kernel
theorem dL_law__2766 : decode cL_law_ 2766 = .ok (.iconst 0, 1) := by decide +kernel
theorem dL_law__2767 : decode cL_law_ 2767 = .ok (.ireturn, 1) := by decide +kernel
theorem dL_law__2768 : decode cL_law_ 2768 = .ok (.iload 5, 2) := by decide +kernel
theorem dL_law__2770 : decode cL_law_ 2770 = .ok (.ifCond .ne 15, 3) := by decide +kernel
theorem dL_law__2773 : decode cL_law_ 2773 = .ok (.aload_n 3, 1) := by decide +kernel
theorem dL_law__2774 : decode cL_law_ 2774 = .ok (.iconst 0, 1) := by decide +kernel
theorem dL_law__2775 : decode cL_law_ 2775 = .ok (.laload, 1) := by decide +kernel
theorem dL_law__2776 : decode cL_law_ 2776 = .ok (.iload 6, 2) := by decide +kernel
theorem dL_law__2778 : decode cL_law_ 2778 = .ok (.i2l, 1) := by decide +kernel
theorem dL_law__2779 : decode cL_law_ 2779 = .ok (.lcmp, 1) := by decide +kernel
theorem dL_law__2780 : decode cL_law_ 2780 = .ok (.ifCond .eq 5, 3) := by decide +kernel
theorem dL_law__2783 : decode cL_law_ 2783 = .ok (.iconst 0, 1) := by decide +kernel
theorem dL_law__2784 : decode cL_law_ 2784 = .ok (.ireturn, 1) := by decide +kernel
theorem dL_law__2785 : decode cL_law_ 2785 = .ok (.goto 733, 3) := by decide +kernel
theorem dL_law__2788 : decode cL_law_ 2788 = .ok (.aload_n 1, 1) := by decide +kernel
theorem dL_law__2789 : decode cL_law_ 2789 = .ok (.aload_n 0, 1) := by decide +kernel
theorem dL_law__2790 : decode cL_law_ 2790 = .ok (.iload 4, 2) := by decide +kernel
theorem dL_law__2792 : decode cL_law_ 2792 = .ok (.iconst 1, 1) := by decide +kernel
theorem dL_law__2793 : decode cL_law_ 2793 = .ok (.iadd, 1) := by decide +kernel
theorem dL_law__2794 : decode cL_law_ 2794 = .ok (.iaload, 1) := by decide +kernel
theorem dL_law__2795 : decode cL_law_ 2795 = .ok (.aload_n 3, 1) := by decide +kernel
theorem dL_law__2796 : decode cL_law_ 2796 = .ok (.invokestatic 303, 3) := by decide +kernel
theorem dL_law__2799 : decode cL_law_ 2799 = .ok (.istore 5, 2) := by decide +kernel
theorem dL_law__2801 : decode cL_law_ 2801 = .ok (.aload_n 2, 1) := by decide +kernel
theorem dL_law__2802 : decode cL_law_ 2802 = .ok (.aload_n 0, 1) := by decide +kernel
theorem dL_law__2803 : decode cL_law_ 2803 = .ok (.iload 4, 2) := by decide +kernel
theorem dL_law__2805 : decode cL_law_ 2805 = .ok (.iconst 1, 1) := by decide +kernel
theorem dL_law__2806 : decode cL_law_ 2806 = .ok (.iadd, 1) := by decide +kernel
theorem dL_law__2807 : decode cL_law_ 2807 = .ok (.iaload, 1) := by decide +kernel
theorem dL_law__2808 : decode cL_law_ 2808 = .ok (.invokevirtual 305, 3) := by decide +kernel
theorem dL_law__2811 : decode cL_law_ 2811 = .ok (.istore 6, 2) := by decide +kernel
theorem dL_law__2813 : decode cL_law_ 2813 = .ok (.aload_n 2, 1) := by decide +kernel
theorem dL_law__2814 : decode cL_law_ 2814 = .ok (.invokevirtual 166, 3) := by decide +kernel
theorem dL_law__2817 : decode cL_law_ 2817 = .ok (.iload 5, 2) := by decide +kernel
theorem dL_law__2819 : decode cL_law_ 2819 = .ok (.if_icmp .eq 5, 3) := by decide +kernel
theorem dL_law__2822 : decode cL_law_ 2822 = .ok (.iconst 0, 1) := by decide +kernel
theorem dL_law__2823 : decode cL_law_ 2823 = .ok (.ireturn, 1) := by decide +kernel
theorem dL_law__2824 : decode cL_law_ 2824 = .ok (.iload 5, 2) := by decide +kernel
theorem dL_law__2826 : decode cL_law_ 2826 = .ok (.ifCond .ne 15, 3) := by decide +kernel
theorem dL_law__2829 : decode cL_law_ 2829 = .ok (.aload_n 3, 1) := by decide +kernel
theorem dL_law__2830 : decode cL_law_ 2830 = .ok (.iconst 0, 1) := by decide +kernel
theorem dL_law__2831 : decode cL_law_ 2831 = .ok (.laload, 1) := by decide +kernel
theorem dL_law__2832 : decode cL_law_ 2832 = .ok (.iload 6, 2) := by decide +kernel
theorem dL_law__2834 : decode cL_law_ 2834 = .ok (.i2l, 1) := by decide +kernel
theorem dL_law__2835 : decode cL_law_ 2835 = .ok (.lcmp, 1) := by decide +kernel
theorem dL_law__2836 : decode cL_law_ 2836 = .ok (.ifCond .eq 5, 3) := by decide +kernel
theorem dL_law__2839 : decode cL_law_ 2839 = .ok (.iconst 0, 1) := by decide +kernel
theorem dL_law__2840 : decode cL_law_ 2840 = .ok (.ireturn, 1) := by decide +kernel
theorem dL_law__2841 : decode cL_law_ 2841 = .ok (.goto 677, 3) := by decide +kernel
theorem dL_law__2844 : decode cL_law_ 2844 = .ok (.aload_n 1, 1) := by decide +kernel
theorem dL_law__2845 : decode cL_law_ 2845 = .ok (.invokevirtual 306, 3) := by decide +kernel
theorem dL_law__2848 : decode cL_law_ 2848 = .ok (.aload_n 2, 1) := by decide +kernel
theorem dL_law__2849 : decode cL_law_ 2849 = .ok (.invokevirtual 309, 3) := by decide +kernel
theorem dL_law__2852 : decode cL_law_ 2852 = .ok (.if_icmp .eq 666, 3) := by decide +kernel
theorem dL_law__2855 : decode cL_law_ 2855 = .ok (.iconst 0, 1) := by decide +kernel
theorem dL_law__2856 : decode cL_law_ 2856 = .ok (.ireturn, 1) := by decide +kernel
theorem dL_law__2857 : decode cL_law_ 2857 = .ok (.aload_n 1, 1) := by decide +kernel
theorem dL_law__2858 : decode cL_law_ 2858 = .ok (.aload_n 0, 1) := by decide +kernel
theorem dL_law__2859 : decode cL_law_ 2859 = .ok (.iload 4, 2) := by decide +kernel
theorem dL_law__2861 : decode cL_law_ 2861 = .ok (.iconst 1, 1) := by decide +kernel
theorem dL_law__2862 : decode cL_law_ 2862 = .ok (.iadd, 1) := by decide +kernel
theorem dL_law__2863 : decode cL_law_ 2863 = .ok (.iaload, 1) := by decide +kernel
theorem dL_law__2864 : decode cL_law_ 2864 = .ok (.aload_n 0, 1) := by decide +kernel
theorem dL_law__2865 : decode cL_law_ 2865 = .ok (.iload 4, 2) := by decide +kernel
theorem dL_law__2867 : decode cL_law_ 2867 = .ok (.iconst 2, 1) := by decide +kernel
theorem dL_law__2868 : decode cL_law_ 2868 = .ok (.iadd, 1) := by decide +kernel
theorem dL_law__2869 : decode cL_law_ 2869 = .ok (.iaload, 1) := by decide +kernel
theorem dL_law__2870 : decode cL_law_ 2870 = .ok (.aload_n 0, 1) := by decide +kernel
theorem dL_law__2871 : decode cL_law_ 2871 = .ok (.iload 4, 2) := by decide +kernel
theorem dL_law__2873 : decode cL_law_ 2873 = .ok (.iconst 3, 1) := by decide +kernel
theorem dL_law__2874 : decode cL_law_ 2874 = .ok (.iadd, 1) := by decide +kernel
theorem dL_law__2875 : decode cL_law_ 2875 = .ok (.iaload, 1) := by decide +kernel
theorem dL_law__2876 : decode cL_law_ 2876 = .ok (.aload_n 3, 1) := by decide +kernel
theorem dL_law__2877 : decode cL_law_ 2877 = .ok (.invokestatic 310, 3) := by decide +kernel
theorem dL_law__2880 : decode cL_law_ 2880 = .ok (.istore 5, 2) := by decide +kernel
theorem dL_law__2882 : decode cL_law_ 2882 = .ok (.aload_n 2, 1) := by decide +kernel
theorem dL_law__2883 : decode cL_law_ 2883 = .ok (.aload_n 0, 1) := by decide +kernel
theorem dL_law__2884 : decode cL_law_ 2884 = .ok (.iload 4, 2) := by decide +kernel
theorem dL_law__2886 : decode cL_law_ 2886 = .ok (.iconst 1, 1) := by decide +kernel
theorem dL_law__2887 : decode cL_law_ 2887 = .ok (.iadd, 1) := by decide +kernel
theorem dL_law__2888 : decode cL_law_ 2888 = .ok (.iaload, 1) := by decide +kernel
theorem dL_law__2889 : decode cL_law_ 2889 = .ok (.aload_n 0, 1) := by decide +kernel
theorem dL_law__2890 : decode cL_law_ 2890 = .ok (.iload 4, 2) := by decide +kernel
theorem dL_law__2892 : decode cL_law_ 2892 = .ok (.iconst 2, 1) := by decide +kernel
theorem dL_law__2893 : decode cL_law_ 2893 = .ok (.iadd, 1) := by decide +kernel
theorem dL_law__2894 : decode cL_law_ 2894 = .ok (.iaload, 1) := by decide +kernel
theorem dL_law__2895 : decode cL_law_ 2895 = .ok (.aload_n 0, 1) := by decide +kernel
theorem dL_law__2896 : decode cL_law_ 2896 = .ok (.iload 4, 2) := by decide +kernel
theorem dL_law__2898 : decode cL_law_ 2898 = .ok (.iconst 3, 1) := by decide +kernel
theorem dL_law__2899 : decode cL_law_ 2899 = .ok (.iadd, 1) := by decide +kernel
theorem dL_law__2900 : decode cL_law_ 2900 = .ok (.iaload, 1) := by decide +kernel
theorem dL_law__2901 : decode cL_law_ 2901 = .ok (.invokevirtual 313, 3) := by decide +kernel
theorem dL_law__2904 : decode cL_law_ 2904 = .ok (.istore 6, 2) := by decide +kernel
theorem dL_law__2906 : decode cL_law_ 2906 = .ok (.aload_n 2, 1) := by decide +kernel
theorem dL_law__2907 : decode cL_law_ 2907 = .ok (.invokevirtual 166, 3) := by decide +kernel
theorem dL_law__2910 : decode cL_law_ 2910 = .ok (.iload 5, 2) := by decide +kernel
theorem dL_law__2912 : decode cL_law_ 2912 = .ok (.if_icmp .eq 5, 3) := by decide +kernel
theorem dL_law__2915 : decode cL_law_ 2915 = .ok (.iconst 0, 1) := by decide +kernel
theorem dL_law__2916 : decode cL_law_ 2916 = .ok (.ireturn, 1) := by decide +kernel
theorem dL_law__2917 : decode cL_law_ 2917 = .ok (.iload 5, 2) := by decide +kernel
theorem dL_law__2919 : decode cL_law_ 2919 = .ok (.ifCond .ne 15, 3) := by decide +kernel
theorem dL_law__2922 : decode cL_law_ 2922 = .ok (.aload_n 3, 1) := by decide +kernel
theorem dL_law__2923 : decode cL_law_ 2923 = .ok (.iconst 0, 1) := by decide +kernel
theorem dL_law__2924 : decode cL_law_ 2924 = .ok (.laload, 1) := by decide +kernel
theorem dL_law__2925 : decode cL_law_ 2925 = .ok (.iload 6, 2) := by decide +kernel
theorem dL_law__2927 : decode cL_law_ 2927 = .ok (.i2l, 1) := by decide +kernel
theorem dL_law__2928 : decode cL_law_ 2928 = .ok (.lcmp, 1) := by decide +kernel
theorem dL_law__2929 : decode cL_law_ 2929 = .ok (.ifCond .eq 5, 3) := by decide +kernel
theorem dL_law__2932 : decode cL_law_ 2932 = .ok (.iconst 0, 1) := by decide +kernel
theorem dL_law__2933 : decode cL_law_ 2933 = .ok (.ireturn, 1) := by decide +kernel
theorem dL_law__2934 : decode cL_law_ 2934 = .ok (.goto 584, 3) := by decide +kernel
theorem dL_law__2937 : decode cL_law_ 2937 = .ok (.aload_n 1, 1) := by decide +kernel
theorem dL_law__2938 : decode cL_law_ 2938 = .ok (.invokevirtual 314, 3) := by decide +kernel
theorem dL_law__2941 : decode cL_law_ 2941 = .ok (.aload_n 2, 1) := by decide +kernel
theorem dL_law__2942 : decode cL_law_ 2942 = .ok (.invokevirtual 317, 3) := by decide +kernel
theorem dL_law__2945 : decode cL_law_ 2945 = .ok (.if_icmp .eq 573, 3) := by decide +kernel
theorem dL_law__2948 : decode cL_law_ 2948 = .ok (.iconst 0, 1) := by decide +kernel
theorem dL_law__2949 : decode cL_law_ 2949 = .ok (.ireturn, 1) := by decide +kernel
theorem dL_law__2950 : decode cL_law_ 2950 = .ok (.aload_n 1, 1) := by decide +kernel
theorem dL_law__2951 : decode cL_law_ 2951 = .ok (.invokevirtual 318, 3) := by decide +kernel
theorem dL_law__2954 : decode cL_law_ 2954 = .ok (.aload_n 2, 1) := by decide +kernel
theorem dL_law__2955 : decode cL_law_ 2955 = .ok (.invokevirtual 321, 3) := by decide +kernel
theorem dL_law__2958 : decode cL_law_ 2958 = .ok (.if_icmp .eq 560, 3) := by decide +kernel
theorem dL_law__2961 : decode cL_law_ 2961 = .ok (.iconst 0, 1) := by decide +kernel
theorem dL_law__2962 : decode cL_law_ 2962 = .ok (.ireturn, 1) := by decide +kernel
theorem dL_law__2963 : decode cL_law_ 2963 = .ok (.aload_n 1, 1) := by decide +kernel
theorem dL_law__2964 : decode cL_law_ 2964 = .ok (.invokevirtual 322, 3) := by decide +kernel
theorem dL_law__2967 : decode cL_law_ 2967 = .ok (.aload_n 2, 1) := by decide +kernel
theorem dL_law__2968 : decode cL_law_ 2968 = .ok (.invokevirtual 325, 3) := by decide +kernel
theorem dL_law__2971 : decode cL_law_ 2971 = .ok (.if_icmp .eq 547, 3) := by decide +kernel
theorem dL_law__2974 : decode cL_law_ 2974 = .ok (.iconst 0, 1) := by decide +kernel
theorem dL_law__2975 : decode cL_law_ 2975 = .ok (.ireturn, 1) := by decide +kernel
theorem dL_law__2976 : decode cL_law_ 2976 = .ok (.aload_n 1, 1) := by decide +kernel
theorem dL_law__2977 : decode cL_law_ 2977 = .ok (.invokevirtual 326, 3) := by decide +kernel
theorem dL_law__2980 : decode cL_law_ 2980 = .ok (.aload_n 2, 1) := by decide +kernel
theorem dL_law__2981 : decode cL_law_ 2981 = .ok (.invokevirtual 329, 3) := by decide +kernel
theorem dL_law__2984 : decode cL_law_ 2984 = .ok (.if_icmp .eq 534, 3) := by decide +kernel
theorem dL_law__2987 : decode cL_law_ 2987 = .ok (.iconst 0, 1) := by decide +kernel
theorem dL_law__2988 : decode cL_law_ 2988 = .ok (.ireturn, 1) := by decide +kernel
theorem dL_law__2989 : decode cL_law_ 2989 = .ok (.aload_n 1, 1) := by decide +kernel
theorem dL_law__2990 : decode cL_law_ 2990 = .ok (.invokevirtual 330, 3) := by decide +kernel
theorem dL_law__2993 : decode cL_law_ 2993 = .ok (.aload_n 2, 1) := by decide +kernel
theorem dL_law__2994 : decode cL_law_ 2994 = .ok (.invokevirtual 333, 3) := by decide +kernel
theorem dL_law__2997 : decode cL_law_ 2997 = .ok (.if_icmp .eq 521, 3) := by decide +kernel
theorem dL_law__3000 : decode cL_law_ 3000 = .ok (.iconst 0, 1) := by decide +kernel
theorem dL_law__3001 : decode cL_law_ 3001 = .ok (.ireturn, 1) := by decide +kernel
theorem dL_law__3002 : decode cL_law_ 3002 = .ok (.aload_n 1, 1) := by decide +kernel
theorem dL_law__3003 : decode cL_law_ 3003 = .ok (.invokevirtual 334, 3) := by decide +kernel
theorem dL_law__3006 : decode cL_law_ 3006 = .ok (.aload_n 2, 1) := by decide +kernel
theorem dL_law__3007 : decode cL_law_ 3007 = .ok (.invokevirtual 337, 3) := by decide +kernel
theorem dL_law__3010 : decode cL_law_ 3010 = .ok (.if_icmp .eq 508, 3) := by decide +kernel
theorem dL_law__3013 : decode cL_law_ 3013 = .ok (.iconst 0, 1) := by decide +kernel
theorem dL_law__3014 : decode cL_law_ 3014 = .ok (.ireturn, 1) := by decide +kernel
theorem dL_law__3015 : decode cL_law_ 3015 = .ok (.aload_n 1, 1) := by decide +kernel
theorem dL_law__3016 : decode cL_law_ 3016 = .ok (.aload_n 0, 1) := by decide +kernel
theorem dL_law__3017 : decode cL_law_ 3017 = .ok (.iload 4, 2) := by decide +kernel
theorem dL_law__3019 : decode cL_law_ 3019 = .ok (.iconst 1, 1) := by decide +kernel
theorem dL_law__3020 : decode cL_law_ 3020 = .ok (.iadd, 1) := by decide +kernel
theorem dL_law__3021 : decode cL_law_ 3021 = .ok (.iaload, 1) := by decide +kernel
theorem dL_law__3022 : decode cL_law_ 3022 = .ok (.aload_n 0, 1) := by decide +kernel
theorem dL_law__3023 : decode cL_law_ 3023 = .ok (.iload 4, 2) := by decide +kernel
theorem dL_law__3025 : decode cL_law_ 3025 = .ok (.iconst 2, 1) := by decide +kernel
theorem dL_law__3026 : decode cL_law_ 3026 = .ok (.iadd, 1) := by decide +kernel
theorem dL_law__3027 : decode cL_law_ 3027 = .ok (.iaload, 1) := by decide +kernel
theorem dL_law__3028 : decode cL_law_ 3028 = .ok (.aload_n 0, 1) := by decide +kernel
theorem dL_law__3029 : decode cL_law_ 3029 = .ok (.iload 4, 2) := by decide +kernel
theorem dL_law__3031 : decode cL_law_ 3031 = .ok (.iconst 3, 1) := by decide +kernel
theorem dL_law__3032 : decode cL_law_ 3032 = .ok (.iadd, 1) := by decide +kernel
theorem dL_law__3033 : decode cL_law_ 3033 = .ok (.iaload, 1) := by decide +kernel
theorem dL_law__3034 : decode cL_law_ 3034 = .ok (.ifCond .eq 7, 3) := by decide +kernel
theorem dL_law__3037 : decode cL_law_ 3037 = .ok (.iconst 1, 1) := by decide +kernel
theorem dL_law__3038 : decode cL_law_ 3038 = .ok (.goto 4, 3) := by decide +kernel
theorem dL_law__3041 : decode cL_law_ 3041 = .ok (.iconst 0, 1) := by decide +kernel
theorem dL_law__3042 : decode cL_law_ 3042 = .ok (.aload_n 3, 1) := by decide +kernel
theorem dL_law__3043 : decode cL_law_ 3043 = .ok (.invokestatic 338, 3) := by decide +kernel
theorem dL_law__3046 : decode cL_law_ 3046 = .ok (.istore 5, 2) := by decide +kernel
theorem dL_law__3048 : decode cL_law_ 3048 = .ok (.aload_n 2, 1) := by decide +kernel
theorem dL_law__3049 : decode cL_law_ 3049 = .ok (.aload_n 0, 1) := by decide +kernel
theorem dL_law__3050 : decode cL_law_ 3050 = .ok (.iload 4, 2) := by decide +kernel
theorem dL_law__3052 : decode cL_law_ 3052 = .ok (.iconst 1, 1) := by decide +kernel
theorem dL_law__3053 : decode cL_law_ 3053 = .ok (.iadd, 1) := by decide +kernel
theorem dL_law__3054 : decode cL_law_ 3054 = .ok (.iaload, 1) := by decide +kernel
theorem dL_law__3055 : decode cL_law_ 3055 = .ok (.aload_n 0, 1) := by decide +kernel
theorem dL_law__3056 : decode cL_law_ 3056 = .ok (.iload 4, 2) := by decide +kernel
theorem dL_law__3058 : decode cL_law_ 3058 = .ok (.iconst 2, 1) := by decide +kernel
theorem dL_law__3059 : decode cL_law_ 3059 = .ok (.iadd, 1) := by decide +kernel
theorem dL_law__3060 : decode cL_law_ 3060 = .ok (.iaload, 1) := by decide +kernel
theorem dL_law__3061 : decode cL_law_ 3061 = .ok (.aload_n 0, 1) := by decide +kernel
theorem dL_law__3062 : decode cL_law_ 3062 = .ok (.iload 4, 2) := by decide +kernel
theorem dL_law__3064 : decode cL_law_ 3064 = .ok (.iconst 3, 1) := by decide +kernel
theorem dL_law__3065 : decode cL_law_ 3065 = .ok (.iadd, 1) := by decide +kernel
theorem dL_law__3066 : decode cL_law_ 3066 = .ok (.iaload, 1) := by decide +kernel
theorem dL_law__3067 : decode cL_law_ 3067 = .ok (.ifCond .eq 7, 3) := by decide +kernel
theorem dL_law__3070 : decode cL_law_ 3070 = .ok (.iconst 1, 1) := by decide +kernel
theorem dL_law__3071 : decode cL_law_ 3071 = .ok (.goto 4, 3) := by decide +kernel
theorem dL_law__3074 : decode cL_law_ 3074 = .ok (.iconst 0, 1) := by decide +kernel
