theorem dL_law_2662 : decode cL_law 2662 = .ok (.iadd, 1) := by decide +kernel
theorem dL_law_2663 : decode cL_law 2663 = .ok (.iaload, 1) := by decide +kernel
theorem dL_law_2664 : decode cL_law 2664 = .ok (.aload_n 3, 1) := by decide +kernel
theorem dL_law_2665 : decode cL_law 2665 = .ok (.invokestatic 304, 3) := by decide +kernel
theorem dL_law_2668 : decode cL_law 2668 = .ok (.istore 6, 2) := by decide +kernel
theorem dL_law_2670 : decode cL_law 2670 = .ok (.aload_n 2, 1) := by decide +kernel
theorem dL_law_2671 : decode cL_law 2671 = .ok (.aload_n 0, 1) := by decide +kernel
theorem dL_law_2672 : decode cL_law 2672 = .ok (.iload 5, 2) := by decide +kernel
theorem dL_law_2674 : decode cL_law 2674 = .ok (.iconst 1, 1) := by decide +kernel
theorem dL_law_2675 : decode cL_law 2675 = .ok (.iadd, 1) := by decide +kernel
theorem dL_law_2676 : decode cL_law 2676 = .ok (.iaload, 1) := by decide +kernel
theorem dL_law_2677 : decode cL_law 2677 = .ok (.invokevirtual 306, 3) := by decide +kernel
theorem dL_law_2680 : decode cL_law 2680 = .ok (.istore 7, 2) := by decide +kernel
theorem dL_law_2682 : decode cL_law 2682 = .ok (.aload_n 2, 1) := by decide +kernel
theorem dL_law_2683 : decode cL_law 2683 = .ok (.invokevirtual 189, 3) := by decide +kernel
theorem dL_law_2686 : decode cL_law 2686 = .ok (.iload 6, 2) := by decide +kernel
theorem dL_law_2688 : decode cL_law 2688 = .ok (.if_icmp .eq 5, 3) := by decide +kernel
theorem dL_law_2691 : decode cL_law 2691 = .ok (.iconst 0, 1) := by decide +kernel
theorem dL_law_2692 : decode cL_law 2692 = .ok (.ireturn, 1) := by decide +kernel
theorem dL_law_2693 : decode cL_law 2693 = .ok (.iload 6, 2) := by decide +kernel
theorem dL_law_2695 : decode cL_law 2695 = .ok (.ifCond .ne 22, 3) := by decide +kernel
theorem dL_law_2698 : decode cL_law 2698 = .ok (.aload_n 3, 1) := by decide +kernel
theorem dL_law_2699 : decode cL_law 2699 = .ok (.iconst 0, 1) := by decide +kernel
theorem dL_law_2700 : decode cL_law 2700 = .ok (.laload, 1) := by decide +kernel
theorem dL_law_2701 : decode cL_law 2701 = .ok (.iload 7, 2) := by decide +kernel
theorem dL_law_2703 : decode cL_law 2703 = .ok (.ifCond .eq 7, 3) := by decide +kernel
theorem dL_law_2706 : decode cL_law 2706 = .ok (.lconst 1, 1) := by decide +kernel
theorem dL_law_2707 : decode cL_law 2707 = .ok (.goto 4, 3) := by decide +kernel
theorem dL_law_2710 : decode cL_law 2710 = .ok (.lconst 0, 1) := by decide +kernel
theorem dL_law_2711 : decode cL_law 2711 = .ok (.lcmp, 1) := by decide +kernel
theorem dL_law_2712 : decode cL_law 2712 = .ok (.ifCond .eq 5, 3) := by decide +kernel
theorem dL_law_2715 : decode cL_law 2715 = .ok (.iconst 0, 1) := by decide +kernel
theorem dL_law_2716 : decode cL_law 2716 = .ok (.ireturn, 1) := by decide +kernel
theorem dL_law_2717 : decode cL_law 2717 = .ok (.goto 1271, 3) := by decide +kernel
theorem dL_law_2720 : decode cL_law 2720 = .ok (.aload_n 1, 1) := by decide +kernel
theorem dL_law_2721 : decode cL_law 2721 = .ok (.aload_n 0, 1) := by decide +kernel
theorem dL_law_2722 : decode cL_law 2722 = .ok (.iload 5, 2) := by decide +kernel
theorem dL_law_2724 : decode cL_law 2724 = .ok (.iconst 1, 1) := by decide +kernel
theorem dL_law_2725 : decode cL_law 2725 = .ok (.iadd, 1) := by decide +kernel
theorem dL_law_2726 : decode cL_law 2726 = .ok (.iaload, 1) := by decide +kernel
theorem dL_law_2727 : decode cL_law 2727 = .ok (.aload_n 3, 1) := by decide +kernel
theorem dL_law_2728 : decode cL_law 2728 = .ok (.invokestatic 307, 3) := by decide +kernel
theorem dL_law_2731 : decode cL_law 2731 = .ok (.istore 6, 2) := by decide +kernel
theorem dL_law_2733 : decode cL_law 2733 = .ok (.aload_n 2, 1) := by decide +kernel
theorem dL_law_2734 : decode cL_law 2734 = .ok (.aload_n 0, 1) := by decide +kernel
theorem dL_law_2735 : decode cL_law 2735 = .ok (.iload 5, 2) := by decide +kernel
theorem dL_law_2737 : decode cL_law 2737 = .ok (.iconst 1, 1) := by decide +kernel
theorem dL_law_2738 : decode cL_law 2738 = .ok (.iadd, 1) := by decide +kernel
theorem dL_law_2739 : decode cL_law 2739 = .ok (.iaload, 1) := by decide +kernel
theorem dL_law_2740 : decode cL_law 2740 = .ok (.invokevirtual 309, 3) := by decide +kernel
theorem dL_law_2743 : decode cL_law 2743 = .ok (.istore 7, 2) := by decide +kernel
theorem dL_law_2745 : decode cL_law 2745 = .ok (.aload_n 2, 1) := by decide +kernel
theorem dL_law_2746 : decode cL_law 2746 = .ok (.invokevirtual 189, 3) := by decide +kernel
theorem dL_law_2749 : decode cL_law 2749 = .ok (.iload 6, 2) := by decide +kernel
theorem dL_law_2751 : decode cL_law 2751 = .ok (.if_icmp .eq 5, 3) := by decide +kernel
theorem dL_law_2754 : decode cL_law 2754 = .ok (.iconst 0, 1) := by decide +kernel
theorem dL_law_2755 : decode cL_law 2755 = .ok (.ireturn, 1) := by decide +kernel
theorem dL_law_2756 : decode cL_law 2756 = .ok (.iload 6, 2) := by decide +kernel
theorem dL_law_2758 : decode cL_law 2758 = .ok (.ifCond .ne 22, 3) := by decide +kernel
theorem dL_law_2761 : decode cL_law 2761 = .ok (.aload_n 3, 1) := by decide +kernel
theorem dL_law_2762 : decode cL_law 2762 = .ok (.iconst 0, 1) := by decide +kernel
theorem dL_law_2763 : decode cL_law 2763 = .ok (.laload, 1) := by decide +kernel
theorem dL_law_2764 : decode cL_law 2764 = .ok (.iload 7, 2) := by decide +kernel
theorem dL_law_2766 : decode cL_law 2766 = .ok (.ifCond .eq 7, 3) := by decide +kernel
theorem dL_law_2769 : decode cL_law 2769 = .ok (.lconst 1, 1) := by decide +kernel
theorem dL_law_2770 : decode cL_law 2770 = .ok (.goto 4, 3) := by decide +kernel
theorem dL_law_2773 : decode cL_law 2773 = .ok (.lconst 0, 1) := by decide +kernel
theorem dL_law_2774 : decode cL_law 2774 = .ok (.lcmp, 1) := by decide +kernel
theorem dL_law_2775 : decode cL_law 2775 = .ok (.ifCond .eq 5, 3) := by decide +kernel
theorem dL_law_2778 : decode cL_law 2778 = .ok (.iconst 0, 1) := by decide +kernel
theorem dL_law_2779 : decode cL_law 2779 = .ok (.ireturn, 1) := by decide +kernel
theorem dL_law_2780 : decode cL_law 2780 = .ok (.goto 1208, 3) := by decide +kernel
theorem dL_law_2783 : decode cL_law 2783 = .ok (.aload_n 1, 1) := by decide +kernel
theorem dL_law_2784 : decode cL_law 2784 = .ok (.aload_n 0, 1) := by decide +kernel
theorem dL_law_2785 : decode cL_law 2785 = .ok (.iload 5, 2) := by decide +kernel
theorem dL_law_2787 : decode cL_law 2787 = .ok (.iconst 1, 1) := by decide +kernel
theorem dL_law_2788 : decode cL_law 2788 = .ok (.iadd, 1) := by decide +kernel
theorem dL_law_2789 : decode cL_law 2789 = .ok (.iaload, 1) := by decide +kernel
theorem dL_law_2790 : decode cL_law 2790 = .ok (.aload_n 0, 1) := by decide +kernel
theorem dL_law_2791 : decode cL_law 2791 = .ok (.iload 5, 2) := by decide +kernel
theorem dL_law_2793 : decode cL_law 2793 = .ok (.iconst 2, 1) := by decide +kernel
theorem dL_law_2794 : decode cL_law 2794 = .ok (.iadd, 1) := by decide +kernel
theorem dL_law_2795 : decode cL_law 2795 = .ok (.iaload, 1) := by decide +kernel
theorem dL_law_2796 : decode cL_law 2796 = .ok (.aload_n 3, 1) := by decide +kernel
theorem dL_law_2797 : decode cL_law 2797 = .ok (.invokestatic 310, 3) := by decide +kernel
theorem dL_law_2800 : decode cL_law 2800 = .ok (.istore 6, 2) := by decide +kernel
theorem dL_law_2802 : decode cL_law 2802 = .ok (.aload_n 2, 1) := by decide +kernel
theorem dL_law_2803 : decode cL_law 2803 = .ok (.aload_n 0, 1) := by decide +kernel
theorem dL_law_2804 : decode cL_law 2804 = .ok (.iload 5, 2) := by decide +kernel
theorem dL_law_2806 : decode cL_law 2806 = .ok (.iconst 1, 1) := by decide +kernel
theorem dL_law_2807 : decode cL_law 2807 = .ok (.iadd, 1) := by decide +kernel
theorem dL_law_2808 : decode cL_law 2808 = .ok (.iaload, 1) := by decide +kernel
theorem dL_law_2809 : decode cL_law 2809 = .ok (.aload_n 0, 1) := by decide +kernel
theorem dL_law_2810 : decode cL_law 2810 = .ok (.iload 5, 2) := by decide +kernel
theorem dL_law_2812 : decode cL_law 2812 = .ok (.iconst 2, 1) := by decide +kernel
theorem dL_law_2813 : decode cL_law 2813 = .ok (.iadd, 1) := by decide +kernel
theorem dL_law_2814 : decode cL_law 2814 = .ok (.iaload, 1) := by decide +kernel
theorem dL_law_2815 : decode cL_law 2815 = .ok (.invokevirtual 312, 3) := by decide +kernel
theorem dL_law_2818 : decode cL_law 2818 = .ok (.istore 7, 2) := by decide +kernel
theorem dL_law_2820 : decode cL_law 2820 = .ok (.aload_n 2, 1) := by decide +kernel
theorem dL_law_2821 : decode cL_law 2821 = .ok (.invokevirtual 189, 3) := by decide +kernel
theorem dL_law_2824 : decode cL_law 2824 = .ok (.iload 6, 2) := by decide +kernel
theorem dL_law_2826 : decode cL_law 2826 = .ok (.if_icmp .eq 5, 3) := by decide +kernel
theorem dL_law_2829 : decode cL_law 2829 = .ok (.iconst 0, 1) := by decide +kernel
theorem dL_law_2830 : decode cL_law 2830 = .ok (.ireturn, 1) := by decide +kernel
theorem dL_law_2831 : decode cL_law 2831 = .ok (.iload 6, 2) := by decide +kernel
theorem dL_law_2833 : decode cL_law 2833 = .ok (.ifCond .ne 15, 3) := by decide +kernel
theorem dL_law_2836 : decode cL_law 2836 = .ok (.aload_n 3, 1) := by decide +kernel
theorem dL_law_2837 : decode cL_law 2837 = .ok (.iconst 0, 1) := by decide +kernel
theorem dL_law_2838 : decode cL_law 2838 = .ok (.laload, 1) := by decide +kernel
theorem dL_law_2839 : decode cL_law 2839 = .ok (.iload 7, 2) := by decide +kernel
theorem dL_law_2841 : decode cL_law 2841 = .ok (.i2l, 1) := by decide +kernel
theorem dL_law_2842 : decode cL_law 2842 = .ok (.lcmp, 1) := by decide +kernel
theorem dL_law_2843 : decode cL_law 2843 = .ok (.ifCond .eq 5, 3) := by decide +kernel
theorem dL_law_2846 : decode cL_law 2846 = .ok (.iconst 0, 1) := by decide +kernel
theorem dL_law_2847 : decode cL_law 2847 = .ok (.ireturn, 1) := by decide +kernel
theorem dL_law_2848 : decode cL_law 2848 = .ok (.goto 1140, 3) := by decide +kernel
theorem dL_law_2851 : decode cL_law 2851 = .ok (.aload_n 1, 1) := by decide +kernel
theorem dL_law_2852 : decode cL_law 2852 = .ok (.aload_n 0, 1) := by decide +kernel
theorem dL_law_2853 : decode cL_law 2853 = .ok (.iload 5, 2) := by decide +kernel
theorem dL_law_2855 : decode cL_law 2855 = .ok (.iconst 1, 1) := by decide +kernel
theorem dL_law_2856 : decode cL_law 2856 = .ok (.iadd, 1) := by decide +kernel
theorem dL_law_2857 : decode cL_law 2857 = .ok (.iaload, 1) := by decide +kernel
theorem dL_law_2858 : decode cL_law 2858 = .ok (.aload_n 0, 1) := by decide +kernel
theorem dL_law_2859 : decode cL_law 2859 = .ok (.iload 5, 2) := by decide +kernel
theorem dL_law_2861 : decode cL_law 2861 = .ok (.iconst 2, 1) := by decide +kernel
theorem dL_law_2862 : decode cL_law 2862 = .ok (.iadd, 1) := by decide +kernel
theorem dL_law_2863 : decode cL_law 2863 = .ok (.iaload, 1) := by decide +kernel
theorem dL_law_2864 : decode cL_law 2864 = .ok (.aload_n 3, 1) := by decide +kernel
theorem dL_law_2865 : decode cL_law 2865 = .ok (.invokestatic 313, 3) := by decide +kernel
theorem dL_law_2868 : decode cL_law 2868 = .ok (.istore 6, 2) := by decide +kernel
theorem dL_law_2870 : decode cL_law 2870 = .ok (.aload_n 2, 1) := by decide +kernel
theorem dL_law_2871 : decode cL_law 2871 = .ok (.aload_n 0, 1) := by decide +kernel
theorem dL_law_2872 : decode cL_law 2872 = .ok (.iload 5, 2) := by decide +kernel
theorem dL_law_2874 : decode cL_law 2874 = .ok (.iconst 1, 1) := by decide +kernel
theorem dL_law_2875 : decode cL_law 2875 = .ok (.iadd, 1) := by decide +kernel
theorem dL_law_2876 : decode cL_law 2876 = .ok (.iaload, 1) := by decide +kernel
theorem dL_law_2877 : decode cL_law 2877 = .ok (.aload_n 0, 1) := by decide +kernel
theorem dL_law_2878 : decode cL_law 2878 = .ok (.iload 5, 2) := by decide +kernel
theorem dL_law_2880 : decode cL_law 2880 = .ok (.iconst 2, 1) := by decide +kernel
theorem dL_law_2881 : decode cL_law 2881 = .ok (.iadd, 1) := by decide +kernel
theorem dL_law_2882 : decode cL_law 2882 = .ok (.iaload, 1) := by decide +kernel
theorem dL_law_2883 : decode cL_law 2883 = .ok (.invokevirtual 315, 3) := by decide +kernel
theorem dL_law_2886 : decode cL_law 2886 = .ok (.istore 7, 2) := by decide +kernel
theorem dL_law_2888 : decode cL_law 2888 = .ok (.aload_n 2, 1) := by decide +kernel
theorem dL_law_2889 : decode cL_law 2889 = .ok (.invokevirtual 189, 3) := by decide +kernel
theorem dL_law_2892 : decode cL_law 2892 = .ok (.iload 6, 2) := by decide +kernel
theorem dL_law_2894 : decode cL_law 2894 = .ok (.if_icmp .eq 5, 3) := by decide +kernel
theorem dL_law_2897 : decode cL_law 2897 = .ok (.iconst 0, 1) := by decide +kernel
theorem dL_law_2898 : decode cL_law 2898 = .ok (.ireturn, 1) := by decide +kernel
theorem dL_law_2899 : decode cL_law 2899 = .ok (.iload 6, 2) := by decide +kernel
theorem dL_law_2901 : decode cL_law 2901 = .ok (.ifCond .ne 15, 3) := by decide +kernel
theorem dL_law_2904 : decode cL_law 2904 = .ok (.aload_n 3, 1) := by decide +kernel
theorem dL_law_2905 : decode cL_law 2905 = .ok (.iconst 0, 1) := by decide +kernel
theorem dL_law_2906 : decode cL_law 2906 = .ok (.laload, 1) := by decide +kernel
theorem dL_law_2907 : decode cL_law 2907 = .ok (.iload 7, 2) := by decide +kernel
theorem dL_law_2909 : decode cL_law 2909 = .ok (.i2l, 1) := by decide +kernel
theorem dL_law_2910 : decode cL_law 2910 = .ok (.lcmp, 1) := by decide +kernel
theorem dL_law_2911 : decode cL_law 2911 = .ok (.ifCond .eq 5, 3) := by decide +kernel
theorem dL_law_2914 : decode cL_law 2914 = .ok (.iconst 0, 1) := by decide +kernel
theorem dL_law_2915 : decode cL_law 2915 = .ok (.ireturn, 1) := by decide +kernel
theorem dL_law_2916 : decode cL_law 2916 = .ok (.goto 1072, 3) := by decide +kernel
theorem dL_law_2919 : decode cL_law 2919 = .ok (.aload_n 1, 1) := by decide +kernel
theorem dL_law_2920 : decode cL_law 2920 = .ok (.aload_n 0, 1) := by decide +kernel
theorem dL_law_2921 : decode cL_law 2921 = .ok (.iload 5, 2) := by decide +kernel
theorem dL_law_2923 : decode cL_law 2923 = .ok (.iconst 1, 1) := by decide +kernel
theorem dL_law_2924 : decode cL_law 2924 = .ok (.iadd, 1) := by decide +kernel
theorem dL_law_2925 : decode cL_law 2925 = .ok (.iaload, 1) := by decide +kernel
theorem dL_law_2926 : decode cL_law 2926 = .ok (.aload_n 0, 1) := by decide +kernel
theorem dL_law_2927 : decode cL_law 2927 = .ok (.iload 5, 2) := by decide +kernel
theorem dL_law_2929 : decode cL_law 2929 = .ok (.iconst 2, 1) := by decide +kernel
theorem dL_law_2930 : decode cL_law 2930 = .ok (.iadd, 1) := by decide +kernel
theorem dL_law_2931 : decode cL_law 2931 = .ok (.iaload, 1) := by decide +kernel
theorem dL_law_2932 : decode cL_law 2932 = .ok (.aload_n 3, 1) := by decide +kernel
theorem dL_law_2933 : decode cL_law 2933 = .ok (.invokestatic 316, 3) := by decide +kernel
theorem dL_law_2936 : decode cL_law 2936 = .ok (.istore 6, 2) := by decide +kernel
theorem dL_law_2938 : decode cL_law 2938 = .ok (.aload_n 2, 1) := by decide +kernel
theorem dL_law_2939 : decode cL_law 2939 = .ok (.aload_n 0, 1) := by decide +kernel
theorem dL_law_2940 : decode cL_law 2940 = .ok (.iload 5, 2) := by decide +kernel
theorem dL_law_2942 : decode cL_law 2942 = .ok (.iconst 1, 1) := by decide +kernel
theorem dL_law_2943 : decode cL_law 2943 = .ok (.iadd, 1) := by decide +kernel
theorem dL_law_2944 : decode cL_law 2944 = .ok (.iaload, 1) := by decide +kernel
theorem dL_law_2945 : decode cL_law 2945 = .ok (.aload_n 0, 1) := by decide +kernel
theorem dL_law_2946 : decode cL_law 2946 = .ok (.iload 5, 2) := by decide +kernel
theorem dL_law_2948 : decode cL_law 2948 = .ok (.iconst 2, 1) := by decide +kernel
theorem dL_law_2949 : decode cL_law 2949 = .ok (.iadd, 1) := by decide +kernel
theorem dL_law_2950 : decode cL_law 2950 = .ok (.iaload, 1) := by decide +kernel
theorem dL_law_2951 : decode cL_law 2951 = .ok (.invokevirtual 318, 3) := by decide +kernel
theorem dL_law_2954 : decode cL_law 2954 = .ok (.istore 7, 2) := by decide +kernel
theorem dL_law_2956 : decode cL_law 2956 = .ok (.aload_n 2, 1) := by decide +kernel
theorem dL_law_2957 : decode cL_law 2957 = .ok (.invokevirtual 189, 3) := by decide +kernel
theorem dL_law_2960 : decode cL_law 2960 = .ok (.iload 6, 2) := by decide +kernel
theorem dL_law_2962 : decode cL_law 2962 = .ok (.if_icmp .eq 5, 3) := by decide +kernel
theorem dL_law_2965 : decode cL_law 2965 = .ok (.iconst 0, 1) := by decide +kernel
theorem dL_law_2966 : decode cL_law 2966 = .ok (.ireturn, 1) := by decide +kernel
theorem dL_law_2967 : decode cL_law 2967 = .ok (.iload 6, 2) := by decide +kernel
theorem dL_law_2969 : decode cL_law 2969 = .ok (.ifCond .ne 15, 3) := by decide +kernel
theorem dL_law_2972 : decode cL_law 2972 = .ok (.aload_n 3, 1) := by decide +kernel
theorem dL_law_2973 : decode cL_law 2973 = .ok (.iconst 0, 1) := by decide +kernel
theorem dL_law_2974 : decode cL_law 2974 = .ok (.laload, 1) := by decide +kernel
theorem dL_law_2975 : decode cL_law 2975 = .ok (.iload 7, 2) := by decide +kernel
theorem dL_law_2977 : decode cL_law 2977 = .ok (.i2l, 1) := by decide +kernel
theorem dL_law_2978 : decode cL_law 2978 = .ok (.lcmp, 1) := by decide +kernel
theorem dL_law_2979 : decode cL_law 2979 = .ok (.ifCond .eq 5, 3) := by decide +kernel
theorem dL_law_2982 : decode cL_law 2982 = .ok (.iconst 0, 1) := by decide +kernel
theorem dL_law_2983 : decode cL_law 2983 = .ok (.ireturn, 1) := by decide +kernel
theorem dL_law_2984 : decode cL_law 2984 = .ok (.goto 1004, 3) := by decide +kernel
theorem dL_law_2987 : decode cL_law 2987 = .ok (.aload_n 1, 1) := by decide +kernel
theorem dL_law_2988 : decode cL_law 2988 = .ok (.aload_n 0, 1) := by decide +kernel
theorem dL_law_2989 : decode cL_law 2989 = .ok (.iload 5, 2) := by decide +kernel
theorem dL_law_2991 : decode cL_law 2991 = .ok (.iconst 1, 1) := by decide +kernel
theorem dL_law_2992 : decode cL_law 2992 = .ok (.iadd, 1) := by decide +kernel
theorem dL_law_2993 : decode cL_law 2993 = .ok (.iaload, 1) := by decide +kernel
theorem dL_law_2994 : decode cL_law 2994 = .ok (.aload_n 0, 1) := by decide +kernel
theorem dL_law_2995 : decode cL_law 2995 = .ok (.iload 5, 2) := by decide +kernel
theorem dL_law_2997 : decode cL_law 2997 = .ok (.iconst 2, 1) := by decide +kernel
theorem dL_law_2998 : decode cL_law 2998 = .ok (.iadd, 1) := by decide +kernel
theorem dL_law_2999 : decode cL_law 2999 = .ok (.iaload, 1) := by decide +kernel
theorem dL_law_3000 : decode cL_law 3000 = .ok (.aload_n 3, 1) := by decide +kernel
theorem dL_law_3001 : decode cL_law 3001 = .ok (.invokestatic 319, 3) := by decide +kernel
theorem dL_law_3004 : decode cL_law 3004 = .ok (.istore 6, 2) := by decide +kernel
theorem dL_law_3006 : decode cL_law 3006 = .ok (.aload_n 2, 1) := by decide +kernel
theorem dL_law_3007 : decode cL_law 3007 = .ok (.aload_n 0, 1) := by decide +kernel
theorem dL_law_3008 : decode cL_law 3008 = .ok (.iload 5, 2) := by decide +kernel
theorem dL_law_3010 : decode cL_law 3010 = .ok (.iconst 1, 1) := by decide +kernel
theorem dL_law_3011 : decode cL_law 3011 = .ok (.iadd, 1) := by decide +kernel
theorem dL_law_3012 : decode cL_law 3012 = .ok (.iaload, 1) := by decide +kernel
theorem dL_law_3013 : decode cL_law 3013 = .ok (.aload_n 0, 1) := by decide +kernel
theorem dL_law_3014 : decode cL_law 3014 = .ok (.iload 5, 2) := by decide +kernel
theorem dL_law_3016 : decode cL_law 3016 = .ok (.iconst 2, 1) := by decide +kernel
theorem dL_law_3017 : decode cL_law 3017 = .ok (.iadd, 1) := by decide +kernel
theorem dL_law_3018 : decode cL_law 3018 = .ok (.iaload, 1) := by decide +kernel
theorem dL_law_3019 : decode cL_law 3019 = .ok (.invokevirtual 321, 3) := by decide +kernel
theorem dL_law_3022 : decode cL_law 3022 = .ok (.istore 7, 2) := by decide +kernel
theorem dL_law_3024 : decode cL_law 3024 = .ok (.aload_n 2, 1) := by decide +kernel
theorem dL_law_3025 : decode cL_law 3025 = .ok (.invokevirtual 189, 3) := by decide +kernel
theorem dL_law_3028 : decode cL_law 3028 = .ok (.iload 6, 2) := by decide +kernel
theorem dL_law_3030 : decode cL_law 3030 = .ok (.if_icmp .eq 5, 3) := by decide +kernel
theorem dL_law_3033 : decode cL_law 3033 = .ok (.iconst 0, 1) := by decide +kernel
theorem dL_law_3034 : decode cL_law 3034 = .ok (.ireturn, 1) := by decide +kernel
theorem dL_law_3035 : decode cL_law 3035 = .ok (.iload 6, 2) := by decide +kernel
theorem dL_law_3037 : decode cL_law 3037 = .ok (.ifCond .ne 15, 3) := by decide +kernel
theorem dL_law_3040 : decode cL_law 3040 = .ok (.aload_n 3, 1) := by decide +kernel
theorem dL_law_3041 : decode cL_law 3041 = .ok (.iconst 0, 1) := by decide +kernel
theorem dL_law_3042 : decode cL_law 3042 = .ok (.laload, 1) := by decide +kernel
theorem dL_law_3043 : decode cL_law 3043 = .ok (.iload 7, 2) := by decide +kernel
theorem dL_law_3045 : decode cL_law 3045 = .ok (.i2l, 1) := by decide +kernel
theorem dL_law_3046 : decode cL_law 3046 = .ok (.lcmp, 1) := by decide +kernel
theorem dL_law_3047 : decode cL_law 3047 = .ok (.ifCond .eq 5, 3) := by decide +kernel
theorem dL_law_3050 : decode cL_law 3050 = .ok (.iconst 0, 1) := by decide +kernel
theorem dL_law_3051 : decode cL_law 3051 = .ok (.ireturn, 1) := by decide +kernel
theorem dL_law_3052 : decode cL_law 3052 = .ok (.goto 936, 3) := by decide +kernel
theorem dL_law_3055 : decode cL_law 3055 = .ok (.aload_n 1, 1) := by decide +kernel
theorem dL_law_3056 : decode cL_law 3056 = .ok (.aload_n 0, 1) := by decide +kernel
theorem dL_law_3057 : decode cL_law 3057 = .ok (.iload 5, 2) := by decide +kernel
theorem dL_law_3059 : decode cL_law 3059 = .ok (.iconst 1, 1) := by decide +kernel
theorem dL_law_3060 : decode cL_law 3060 = .ok (.iadd, 1) := by decide +kernel
theorem dL_law_3061 : decode cL_law 3061 = .ok (.iaload, 1) := by decide +kernel
theorem dL_law_3062 : decode cL_law 3062 = .ok (.aload_n 0, 1) := by decide +kernel
theorem dL_law_3063 : decode cL_law 3063 = .ok (.iload 5, 2) := by decide +kernel
theorem dL_law_3065 : decode cL_law 3065 = .ok (.iconst 2, 1) := by decide +kernel
theorem dL_law_3066 : decode cL_law 3066 = .ok (.iadd, 1) := by decide +kernel
theorem dL_law_3067 : decode cL_law 3067 = .ok (.iaload, 1) := by decide +kernel
theorem dL_law_3068 : decode cL_law 3068 = .ok (.aload_n 3, 1) := by decide +kernel
theorem dL_law_3069 : decode cL_law 3069 = .ok (.invokestatic 322, 3) := by decide +kernel
theorem dL_law_3072 : decode cL_law 3072 = .ok (.istore 6, 2) := by decide +kernel
theorem dL_law_3074 : decode cL_law 3074 = .ok (.aload_n 2, 1) := by decide +kernel
theorem dL_law_3075 : decode cL_law 3075 = .ok (.aload_n 0, 1) := by decide +kernel
theorem dL_law_3076 : decode cL_law 3076 = .ok (.iload 5, 2) := by decide +kernel
theorem dL_law_3078 : decode cL_law 3078 = .ok (.iconst 1, 1) := by decide +kernel
theorem dL_law_3079 : decode cL_law 3079 = .ok (.iadd, 1) := by decide +kernel
theorem dL_law_3080 : decode cL_law 3080 = .ok (.iaload, 1) := by decide +kernel
theorem dL_law_3081 : decode cL_law 3081 = .ok (.aload_n 0, 1) := by decide +kernel
theorem dL_law_3082 : decode cL_law 3082 = .ok (.iload 5, 2) := by decide +kernel
theorem dL_law_3084 : decode cL_law 3084 = .ok (.iconst 2, 1) := by decide +kernel
theorem dL_law_3085 : decode cL_law 3085 = .ok (.iadd, 1) := by decide +kernel
theorem dL_law_3086 : decode cL_law 3086 = .ok (.iaload, 1) := by decide +kernel
theorem dL_law_3087 : decode cL_law 3087 = .ok (.invokevirtual 324, 3) := by decide +kernel
theorem dL_law_3090 : decode cL_law 3090 = .ok (.istore 7, 2) := by decide +kernel
theorem dL_law_3092 : decode cL_law 3092 = .ok (.aload_n 2, 1) := by decide +kernel
theorem dL_law_3093 : decode cL_law 3093 = .ok (.invokevirtual 189, 3) := by decide +kernel
theorem dL_law_3096 : decode cL_law 3096 = .ok (.iload 6, 2) := by decide +kernel
theorem dL_law_3098 : decode cL_law 3098 = .ok (.if_icmp .eq 5, 3) := by decide +kernel
theorem dL_law_3101 : decode cL_law 3101 = .ok (.iconst 0, 1) := by decide +kernel
theorem dL_law_3102 : decode cL_law 3102 = .ok (.ireturn, 1) := by decide +kernel
theorem dL_law_3103 : decode cL_law 3103 = .ok (.iload 6, 2) := by decide +kernel
theorem dL_law_3105 : decode cL_law 3105 = .ok (.ifCond .ne 15, 3) := by decide +kernel
theorem dL_law_3108 : decode cL_law 3108 = .ok (.aload_n 3, 1) := by decide +kernel
theorem dL_law_3109 : decode cL_law 3109 = .ok (.iconst 0, 1) := by decide +kernel
theorem dL_law_3110 : decode cL_law 3110 = .ok (.laload, 1) := by decide +kernel
theorem dL_law_3111 : decode cL_law 3111 = .ok (.iload 7, 2) := by decide +kernel
theorem dL_law_3113 : decode cL_law 3113 = .ok (.i2l, 1) := by decide +kernel
theorem dL_law_3114 : decode cL_law 3114 = .ok (.lcmp, 1) := by decide +kernel
theorem dL_law_3115 : decode cL_law 3115 = .ok (.ifCond .eq 5, 3) := by decide +kernel
theorem dL_law_3118 : decode cL_law 3118 = .ok (.iconst 0, 1) := by decide +kernel
theorem dL_law_3119 : decode cL_law 3119 = .ok (.ireturn, 1) := by decide +kernel
theorem dL_law_3120 : decode cL_law 3120 = .ok (.goto 868, 3) := by decide +kernel
theorem dL_law_3123 : decode cL_law 3123 = .ok (.aload_n 1, 1) := by decide +kernel
theorem dL_law_3124 : decode cL_law 3124 = .ok (.aload_n 0, 1) := by decide +kernel
theorem dL_law_3125 : decode cL_law 3125 = .ok (.iload 5, 2) := by decide +kernel
theorem dL_law_3127 : decode cL_law 3127 = .ok (.iconst 1, 1) := by decide +kernel
theorem dL_law_3128 : decode cL_law 3128 = .ok (.iadd, 1) := by decide +kernel
theorem dL_law_3129 : decode cL_law 3129 = .ok (.iaload, 1) := by decide +kernel
theorem dL_law_3130 : decode cL_law 3130 = .ok (.aload_n 3, 1) := by decide +kernel
theorem dL_law_3131 : decode cL_law 3131 = .ok (.invokestatic 325, 3) := by decide +kernel
theorem dL_law_3134 : decode cL_law 3134 = .ok (.istore 6, 2) := by decide +kernel
theorem dL_law_3136 : decode cL_law 3136 = .ok (.aload_n 2, 1) := by decide +kernel
theorem dL_law_3137 : decode cL_law 3137 = .ok (.aload_n 0, 1) := by decide +kernel
theorem dL_law_3138 : decode cL_law 3138 = .ok (.iload 5, 2) := by decide +kernel
theorem dL_law_3140 : decode cL_law 3140 = .ok (.iconst 1, 1) := by decide +kernel
theorem dL_law_3141 : decode cL_law 3141 = .ok (.iadd, 1) := by decide +kernel
theorem dL_law_3142 : decode cL_law 3142 = .ok (.iaload, 1) := by decide +kernel
theorem dL_law_3143 : decode cL_law 3143 = .ok (.invokevirtual 327, 3) := by decide +kernel
theorem dL_law_3146 : decode cL_law 3146 = .ok (.lstore 7, 2) := by decide +kernel
theorem dL_law_3148 : decode cL_law 3148 = .ok (.aload_n 2, 1) := by decide +kernel
theorem dL_law_3149 : decode cL_law 3149 = .ok (.invokevirtual 189, 3) := by decide +kernel
theorem dL_law_3152 : decode cL_law 3152 = .ok (.iload 6, 2) := by decide +kernel
theorem dL_law_3154 : decode cL_law 3154 = .ok (.if_icmp .eq 5, 3) := by decide +kernel
theorem dL_law_3157 : decode cL_law 3157 = .ok (.iconst 0, 1) := by decide +kernel
theorem dL_law_3158 : decode cL_law 3158 = .ok (.ireturn, 1) := by decide +kernel
theorem dL_law_3159 : decode cL_law 3159 = .ok (.iload 6, 2) := by decide +kernel
theorem dL_law_3161 : decode cL_law 3161 = .ok (.ifCond .ne 14, 3) := by decide +kernel
theorem dL_law_3164 : decode cL_law 3164 = .ok (.aload_n 3, 1) := by decide +kernel
theorem dL_law_3165 : decode cL_law 3165 = .ok (.iconst 0, 1) := by decide +kernel
theorem dL_law_3166 : decode cL_law 3166 = .ok (.laload, 1) := by decide +kernel
theorem dL_law_3167 : decode cL_law 3167 = .ok (.lload 7, 2) := by decide +kernel
theorem dL_law_3169 : decode cL_law 3169 = .ok (.lcmp, 1) := by decide +kernel
theorem dL_law_3170 : decode cL_law 3170 = .ok (.ifCond .eq 5, 3) := by decide +kernel
theorem dL_law_3173 : decode cL_law 3173 = .ok (.iconst 0, 1) := by decide +kernel
theorem dL_law_3174 : decode cL_law 3174 = .ok (.ireturn, 1) := by decide +kernel
theorem dL_law_3175 : decode cL_law 3175 = .ok (.goto 813, 3) := by decide +kernel
theorem dL_law_3178 : decode cL_law 3178 = .ok (.aload_n 1, 1) := by decide +kernel
theorem dL_law_3179 : decode cL_law 3179 = .ok (.aload_n 0, 1) := by decide +kernel
theorem dL_law_3180 : decode cL_law 3180 = .ok (.iload 5, 2) := by decide +kernel
theorem dL_law_3182 : decode cL_law 3182 = .ok (.iconst 1, 1) := by decide +kernel
theorem dL_law_3183 : decode cL_law 3183 = .ok (.iadd, 1) := by decide +kernel
theorem dL_law_3184 : decode cL_law 3184 = .ok (.iaload, 1) := by decide +kernel
theorem dL_law_3185 : decode cL_law 3185 = .ok (.aload_n 3, 1) := by decide +kernel
theorem dL_law_3186 : decode cL_law 3186 = .ok (.invokestatic 328, 3) := by decide +kernel
theorem dL_law_3189 : decode cL_law 3189 = .ok (.istore 6, 2) := by decide +kernel
theorem dL_law_3191 : decode cL_law 3191 = .ok (.aload_n 2, 1) := by decide +kernel
theorem dL_law_3192 : decode cL_law 3192 = .ok (.aload_n 0, 1) := by decide +kernel
theorem dL_law_3193 : decode cL_law 3193 = .ok (.iload 5, 2) := by decide +kernel
theorem dL_law_3195 : decode cL_law 3195 = .ok (.iconst 1, 1) := by decide +kernel
theorem dL_law_3196 : decode cL_law 3196 = .ok (.iadd, 1) := by decide +kernel
theorem dL_law_3197 : decode cL_law 3197 = .ok (.iaload, 1) := by decide +kernel
theorem dL_law_3198 : decode cL_law 3198 = .ok (.invokevirtual 330, 3) := by decide +kernel
theorem dL_law_3201 : decode cL_law 3201 = .ok (.istore 7, 2) := by decide +kernel
theorem dL_law_3203 : decode cL_law 3203 = .ok (.aload_n 2, 1) := by decide +kernel
theorem dL_law_3204 : decode cL_law 3204 = .ok (.invokevirtual 189, 3) := by decide +kernel
theorem dL_law_3207 : decode cL_law 3207 = .ok (.iload 6, 2) := by decide +kernel
theorem dL_law_3209 : decode cL_law 3209 = .ok (.if_icmp .eq 5, 3) := by decide +kernel
theorem dL_law_3212 : decode cL_law 3212 = .ok (.iconst 0, 1) := by decide +kernel
theorem dL_law_3213 : decode cL_law 3213 = .ok (.ireturn, 1) := by decide +kernel
theorem dL_law_3214 : decode cL_law 3214 = .ok (.iload 6, 2) := by decide +kernel
theorem dL_law_3216 : decode cL_law 3216 = .ok (.ifCond .ne 15, 3) := by decide +kernel
theorem dL_law_3219 : decode cL_law 3219 = .ok (.aload_n 3, 1) := by decide +kernel
theorem dL_law_3220 : decode cL_law 3220 = .ok (.iconst 0, 1) := by decide +kernel
theorem dL_law_3221 : decode cL_law 3221 = .ok (.laload, 1) := by decide +kernel
theorem dL_law_3222 : decode cL_law 3222 = .ok (.iload 7, 2) := by decide +kernel
theorem dL_law_3224 : decode cL_law 3224 = .ok (.i2l, 1) := by decide +kernel
theorem dL_law_3225 : decode cL_law 3225 = .ok (.lcmp, 1) := by decide +kernel
theorem dL_law_3226 : decode cL_law 3226 = .ok (.ifCond .eq 5, 3) := by decide +kernel
theorem dL_law_3229 : decode cL_law 3229 = .ok (.iconst 0, 1) := by decide +kernel
theorem dL_law_3230 : decode cL_law 3230 = .ok (.ireturn, 1) := by decide +kernel
theorem dL_law_3231 : decode cL_law 3231 = .ok (.goto 757, 3) := by decide +kernel
theorem dL_law_3234 : decode cL_law 3234 = .ok (.aload_n 1, 1) := by decide +kernel
theorem dL_law_3235 : decode cL_law 3235 = .ok (.aload_n 0, 1) := by decide +kernel
theorem dL_law_3236 : decode cL_law 3236 = .ok (.iload 5, 2) := by decide +kernel
theorem dL_law_3238 : decode cL_law 3238 = .ok (.iconst 1, 1) := by decide +kernel
theorem dL_law_3239 : decode cL_law 3239 = .ok (.iadd, 1) := by decide +kernel
theorem dL_law_3240 : decode cL_law 3240 = .ok (.iaload, 1) := by decide +kernel
theorem dL_law_3241 : decode cL_law 3241 = .ok (.aload_n 3, 1) := by decide +kernel
theorem dL_law_3242 : decode cL_law 3242 = .ok (.invokestatic 331, 3) := by decide +kernel
theorem dL_law_3245 : decode cL_law 3245 = .ok (.istore 6, 2) := by decide +kernel
theorem dL_law_3247 : decode cL_law 3247 = .ok (.aload_n 2, 1) := by decide +kernel
theorem dL_law_3248 : decode cL_law 3248 = .ok (.aload_n 0, 1) := by decide +kernel
theorem dL_law_3249 : decode cL_law 3249 = .ok (.iload 5, 2) := by decide +kernel
theorem dL_law_3251 : decode cL_law 3251 = .ok (.iconst 1, 1) := by decide +kernel
theorem dL_law_3252 : decode cL_law 3252 = .ok (.iadd, 1) := by decide +kernel
theorem dL_law_3253 : decode cL_law 3253 = .ok (.iaload, 1) := by decide +kernel
theorem dL_law_3254 : decode cL_law 3254 = .ok (.invokevirtual 333, 3) := by decide +kernel
theorem dL_law_3257 : decode cL_law 3257 = .ok (.istore 7, 2) := by decide +kernel
theorem dL_law_3259 : decode cL_law 3259 = .ok (.aload_n 2, 1) := by decide +kernel
theorem dL_law_3260 : decode cL_law 3260 = .ok (.invokevirtual 189, 3) := by decide +kernel
theorem dL_law_3263 : decode cL_law 3263 = .ok (.iload 6, 2) := by decide +kernel
theorem dL_law_3265 : decode cL_law 3265 = .ok (.if_icmp .eq 5, 3) := by decide +kernel
theorem dL_law_3268 : decode cL_law 3268 = .ok (.iconst 0, 1) := by decide +kernel
theorem dL_law_3269 : decode cL_law 3269 = .ok (.ireturn, 1) := by decide +kernel
theorem dL_law_3270 : decode cL_law 3270 = .ok (.iload 6, 2) := by decide +kernel
theorem dL_law_3272 : decode cL_law 3272 = .ok (.ifCond .ne 15, 3) := by decide +kernel
theorem dL_law_3275 : decode cL_law 3275 = .ok (.aload_n 3, 1) := by decide +kernel
theorem dL_law_3276 : decode cL_law 3276 = .ok (.iconst 0, 1) := by decide +kernel
theorem dL_law_3277 : decode cL_law 3277 = .ok (.laload, 1) := by decide +kernel
theorem dL_law_3278 : decode cL_law 3278 = .ok (.iload 7, 2) := by decide +kernel
theorem dL_law_3280 : decode cL_law 3280 = .ok (.i2l, 1) := by decide +kernel
theorem dL_law_3281 : decode cL_law 3281 = .ok (.lcmp, 1) := by decide +kernel
theorem dL_law_3282 : decode cL_law 3282 = .ok (.ifCond .eq 5, 3) := by decide +kernel
theorem dL_law_3285 : decode cL_law 3285 = .ok (.iconst 0, 1) := by decide +kernel
theorem dL_law_3286 : decode cL_law 3286 = .ok (.ireturn, 1) := by decide +kernel
theorem dL_law_3287 : decode cL_law 3287 = .ok (.goto 701, 3) := by decide +kernel
theorem dL_law_3290 : decode cL_law 3290 = .ok (.aload_n 1, 1) := by decide +kernel
theorem dL_law_3291 : decode cL_law 3291 = .ok (.aload_n 0, 1) := by decide +kernel
theorem dL_law_3292 : decode cL_law 3292 = .ok (.iload 5, 2) := by decide +kernel
theorem dL_law_3294 : decode cL_law 3294 = .ok (.iconst 1, 1) := by decide +kernel
theorem dL_law_3295 : decode cL_law 3295 = .ok (.iadd, 1) := by decide +kernel
theorem dL_law_3296 : decode cL_law 3296 = .ok (.iaload, 1) := by decide +kernel
theorem dL_law_3297 : decode cL_law 3297 = .ok (.aload_n 0, 1) := by decide +kernel
theorem dL_law_3298 : decode cL_law 3298 = .ok (.iload 5, 2) := by decide +kernel
theorem dL_law_3300 : decode cL_law 3300 = .ok (.iconst 2, 1) := by decide +kernel
theorem dL_law_3301 : decode cL_law 3301 = .ok (.iadd, 1) := by decide +kernel
theorem dL_law_3302 : decode cL_law 3302 = .ok (.iaload, 1) := by decide +kernel
theorem dL_law_3303 : decode cL_law 3303 = .ok (.aload_n 3, 1) := by decide +kernel
theorem dL_law_3304 : decode cL_law 3304 = .ok (.invokestatic 334, 3) := by decide +kernel
theorem dL_law_3307 : decode cL_law 3307 = .ok (.istore 6, 2) := by decide +kernel
theorem dL_law_3309 : decode cL_law 3309 = .ok (.aload_n 2, 1) := by decide +kernel
theorem dL_law_3310 : decode cL_law 3310 = .ok (.aload_n 0, 1) := by decide +kernel
theorem dL_law_3311 : decode cL_law 3311 = .ok (.iload 5, 2) := by decide +kernel
theorem dL_law_3313 : decode cL_law 3313 = .ok (.iconst 1, 1) := by decide +kernel
theorem dL_law_3314 : decode cL_law 3314 = .ok (.iadd, 1) := by decide +kernel
theorem dL_law_3315 : decode cL_law 3315 = .ok (.iaload, 1) := by decide +kernel
theorem dL_law_3316 : decode cL_law 3316 = .ok (.aload_n 0, 1) := by decide +kernel
theorem dL_law_3317 : decode cL_law 3317 = .ok (.iload 5, 2) := by decide +kernel
theorem dL_law_3319 : decode cL_law 3319 = .ok (.iconst 2, 1) := by decide +kernel
theorem dL_law_3320 : decode cL_law 3320 = .ok (.iadd, 1) := by decide +kernel
theorem dL_law_3321 : decode cL_law 3321 = .ok (.iaload, 1) := by decide +kernel
theorem dL_law_3322 : decode cL_law 3322 = .ok (.invokevirtual 336, 3) := by decide +kernel
theorem dL_law_3325 : decode cL_law 3325 = .ok (.istore 7, 2) := by decide +kernel
theorem dL_law_3327 : decode cL_law 3327 = .ok (.aload_n 2, 1) := by decide +kernel
theorem dL_law_3328 : decode cL_law 3328 = .ok (.invokevirtual 189, 3) := by decide +kernel
theorem dL_law_3331 : decode cL_law 3331 = .ok (.iload 6, 2) := by decide +kernel
theorem dL_law_3333 : decode cL_law 3333 = .ok (.if_icmp .eq 5, 3) := by decide +kernel
theorem dL_law_3336 : decode cL_law 3336 = .ok (.iconst 0, 1) := by decide +kernel
theorem dL_law_3337 : decode cL_law 3337 = .ok (.ireturn, 1) := by decide +kernel
theorem dL_law_3338 : decode cL_law 3338 = .ok (.iload 6, 2) := by decide +kernel
theorem dL_law_3340 : decode cL_law 3340 = .ok (.ifCond .ne 22, 3) := by decide +kernel
theorem dL_law_3343 : decode cL_law 3343 = .ok (.aload_n 3, 1) := by decide +kernel
theorem dL_law_3344 : decode cL_law 3344 = .ok (.iconst 0, 1) := by decide +kernel
theorem dL_law_3345 : decode cL_law 3345 = .ok (.laload, 1) := by decide +kernel
theorem dL_law_3346 : decode cL_law 3346 = .ok (.iload 7, 2) := by decide +kernel
theorem dL_law_3348 : decode cL_law 3348 = .ok (.ifCond .eq 7, 3) := by decide +kernel
theorem dL_law_3351 : decode cL_law 3351 = .ok (.lconst 1, 1) := by decide +kernel
theorem dL_law_3352 : decode cL_law 3352 = .ok (.goto 4, 3) := by decide +kernel
theorem dL_law_3355 : decode cL_law 3355 = .ok (.lconst 0, 1) := by decide +kernel
theorem dL_law_3356 : decode cL_law 3356 = .ok (.lcmp, 1) := by decide +kernel
theorem dL_law_3357 : decode cL_law 3357 = .ok (.ifCond .eq 5, 3) := by decide +kernel
theorem dL_law_3360 : decode cL_law 3360 = .ok (.iconst 0, 1) := by decide +kernel
theorem dL_law_3361 : decode cL_law 3361 = .ok (.ireturn, 1) := by decide +kernel
theorem dL_law_3362 : decode cL_law 3362 = .ok (.goto 626, 3) := by decide +kernel
theorem dL_law_3365 : decode cL_law 3365 = .ok (.aload_n 1, 1) := by decide +kernel
theorem dL_law_3366 : decode cL_law 3366 = .ok (.aload_n 0, 1) := by decide +kernel
theorem dL_law_3367 : decode cL_law 3367 = .ok (.iload 5, 2) := by decide +kernel
theorem dL_law_3369 : decode cL_law 3369 = .ok (.iconst 1, 1) := by decide +kernel
theorem dL_law_3370 : decode cL_law 3370 = .ok (.iadd, 1) := by decide +kernel
theorem dL_law_3371 : decode cL_law 3371 = .ok (.iaload, 1) := by decide +kernel
theorem dL_law_3372 : decode cL_law 3372 = .ok (.aload_n 0, 1) := by decide +kernel
theorem dL_law_3373 : decode cL_law 3373 = .ok (.iload 5, 2) := by decide +kernel
theorem dL_law_3375 : decode cL_law 3375 = .ok (.iconst 2, 1) := by decide +kernel
theorem dL_law_3376 : decode cL_law 3376 = .ok (.iadd, 1) := by decide +kernel
theorem dL_law_3377 : decode cL_law 3377 = .ok (.iaload, 1) := by decide +kernel
theorem dL_law_3378 : decode cL_law 3378 = .ok (.aload_n 3, 1) := by decide +kernel
theorem dL_law_3379 : decode cL_law 3379 = .ok (.invokestatic 337, 3) := by decide +kernel
theorem dL_law_3382 : decode cL_law 3382 = .ok (.istore 6, 2) := by decide +kernel
theorem dL_law_3384 : decode cL_law 3384 = .ok (.aload_n 2, 1) := by decide +kernel
theorem dL_law_3385 : decode cL_law 3385 = .ok (.aload_n 0, 1) := by decide +kernel
theorem dL_law_3386 : decode cL_law 3386 = .ok (.iload 5, 2) := by decide +kernel
theorem dL_law_3388 : decode cL_law 3388 = .ok (.iconst 1, 1) := by decide +kernel
theorem dL_law_3389 : decode cL_law 3389 = .ok (.iadd, 1) := by decide +kernel
theorem dL_law_3390 : decode cL_law 3390 = .ok (.iaload, 1) := by decide +kernel
theorem dL_law_3391 : decode cL_law 3391 = .ok (.aload_n 0, 1) := by decide +kernel
theorem dL_law_3392 : decode cL_law 3392 = .ok (.iload 5, 2) := by decide +kernel
theorem dL_law_3394 : decode cL_law 3394 = .ok (.iconst 2, 1) := by decide +kernel
theorem dL_law_3395 : decode cL_law 3395 = .ok (.iadd, 1) := by decide +kernel
theorem dL_law_3396 : decode cL_law 3396 = .ok (.iaload, 1) := by decide +kernel
theorem dL_law_3397 : decode cL_law 3397 = .ok (.invokevirtual 339, 3) := by decide +kernel
theorem dL_law_3400 : decode cL_law 3400 = .ok (.istore 7, 2) := by decide +kernel
theorem dL_law_3402 : decode cL_law 3402 = .ok (.aload_n 2, 1) := by decide +kernel
theorem dL_law_3403 : decode cL_law 3403 = .ok (.invokevirtual 189, 3) := by decide +kernel
theorem dL_law_3406 : decode cL_law 3406 = .ok (.iload 6, 2) := by decide +kernel
theorem dL_law_3408 : decode cL_law 3408 = .ok (.if_icmp .eq 5, 3) := by decide +kernel
theorem dL_law_3411 : decode cL_law 3411 = .ok (.iconst 0, 1) := by decide +kernel
theorem dL_law_3412 : decode cL_law 3412 = .ok (.ireturn, 1) := by decide +kernel
theorem dL_law_3413 : decode cL_law 3413 = .ok (.iload 6, 2) := by decide +kernel
theorem dL_law_3415 : decode cL_law 3415 = .ok (.ifCond .ne 22, 3) := by decide +kernel
theorem dL_law_3418 : decode cL_law 3418 = .ok (.aload_n 3, 1) := by decide +kernel
theorem dL_law_3419 : decode cL_law 3419 = .ok (.iconst 0, 1) := by decide +kernel
theorem dL_law_3420 : decode cL_law 3420 = .ok (.laload, 1) := by decide +kernel
theorem dL_law_3421 : decode cL_law 3421 = .ok (.iload 7, 2) := by decide +kernel
theorem dL_law_3423 : decode cL_law 3423 = .ok (.ifCond .eq 7, 3) := by decide +kernel
theorem dL_law_3426 : decode cL_law 3426 = .ok (.lconst 1, 1) := by decide +kernel
theorem dL_law_3427 : decode cL_law 3427 = .ok (.goto 4, 3) := by decide +kernel
theorem dL_law_3430 : decode cL_law 3430 = .ok (.lconst 0, 1) := by decide +kernel
theorem dL_law_3431 : decode cL_law 3431 = .ok (.lcmp, 1) := by decide +kernel
theorem dL_law_3432 : decode cL_law 3432 = .ok (.ifCond .eq 5, 3) := by decide +kernel
theorem dL_law_3435 : decode cL_law 3435 = .ok (.iconst 0, 1) := by decide +kernel
theorem dL_law_3436 : decode cL_law 3436 = .ok (.ireturn, 1) := by decide +kernel
theorem dL_law_3437 : decode cL_law 3437 = .ok (.goto 551, 3) := by decide +kernel
theorem dL_law_3440 : decode cL_law 3440 = .ok (.aload_n 1, 1) := by decide +kernel
theorem dL_law_3441 : decode cL_law 3441 = .ok (.aload_n 0, 1) := by decide +kernel
theorem dL_law_3442 : decode cL_law 3442 = .ok (.iload 5, 2) := by decide +kernel
theorem dL_law_3444 : decode cL_law 3444 = .ok (.iconst 1, 1) := by decide +kernel
theorem dL_law_3445 : decode cL_law 3445 = .ok (.iadd, 1) := by decide +kernel
theorem dL_law_3446 : decode cL_law 3446 = .ok (.iaload, 1) := by decide +kernel
theorem dL_law_3447 : decode cL_law 3447 = .ok (.aload_n 0, 1) := by decide +kernel
theorem dL_law_3448 : decode cL_law 3448 = .ok (.iload 5, 2) := by decide +kernel
theorem dL_law_3450 : decode cL_law 3450 = .ok (.iconst 2, 1) := by decide +kernel
theorem dL_law_3451 : decode cL_law 3451 = .ok (.iadd, 1) := by decide +kernel
theorem dL_law_3452 : decode cL_law 3452 = .ok (.iaload, 1) := by decide +kernel
theorem dL_law_3453 : decode cL_law 3453 = .ok (.aload_n 3, 1) := by decide +kernel
theorem dL_law_3454 : decode cL_law 3454 = .ok (.invokestatic 340, 3) := by decide +kernel
theorem dL_law_3457 : decode cL_law 3457 = .ok (.istore 6, 2) := by decide +kernel
theorem dL_law_3459 : decode cL_law 3459 = .ok (.aload_n 2, 1) := by decide +kernel
theorem dL_law_3460 : decode cL_law 3460 = .ok (.aload_n 0, 1) := by decide +kernel
theorem dL_law_3461 : decode cL_law 3461 = .ok (.iload 5, 2) := by decide +kernel
theorem dL_law_3463 : decode cL_law 3463 = .ok (.iconst 1, 1) := by decide +kernel
theorem dL_law_3464 : decode cL_law 3464 = .ok (.iadd, 1) := by decide +kernel
theorem dL_law_3465 : decode cL_law 3465 = .ok (.iaload, 1) := by decide +kernel
theorem dL_law_3466 : decode cL_law 3466 = .ok (.aload_n 0, 1) := by decide +kernel
theorem dL_law_3467 : decode cL_law 3467 = .ok (.iload 5, 2) := by decide +kernel
theorem dL_law_3469 : decode cL_law 3469 = .ok (.iconst 2, 1) := by decide +kernel
theorem dL_law_3470 : decode cL_law 3470 = .ok (.iadd, 1) := by decide +kernel
theorem dL_law_3471 : decode cL_law 3471 = .ok (.iaload, 1) := by decide +kernel
theorem dL_law_3472 : decode cL_law 3472 = .ok (.invokevirtual 342, 3) := by decide +kernel
theorem dL_law_3475 : decode cL_law 3475 = .ok (.istore 7, 2) := by decide +kernel
theorem dL_law_3477 : decode cL_law 3477 = .ok (.aload_n 2, 1) := by decide +kernel
theorem dL_law_3478 : decode cL_law 3478 = .ok (.invokevirtual 189, 3) := by decide +kernel
theorem dL_law_3481 : decode cL_law 3481 = .ok (.iload 6, 2) := by decide +kernel
theorem dL_law_3483 : decode cL_law 3483 = .ok (.if_icmp .eq 5, 3) := by decide +kernel
theorem dL_law_3486 : decode cL_law 3486 = .ok (.iconst 0, 1) := by decide +kernel
theorem dL_law_3487 : decode cL_law 3487 = .ok (.ireturn, 1) := by decide +kernel
theorem dL_law_3488 : decode cL_law 3488 = .ok (.iload 6, 2) := by decide +kernel
theorem dL_law_3490 : decode cL_law 3490 = .ok (.ifCond .ne 22, 3) := by decide +kernel
theorem dL_law_3493 : decode cL_law 3493 = .ok (.aload_n 3, 1) := by decide +kernel
theorem dL_law_3494 : decode cL_law 3494 = .ok (.iconst 0, 1) := by decide +kernel
theorem dL_law_3495 : decode cL_law 3495 = .ok (.laload, 1) := by decide +kernel
theorem dL_law_3496 : decode cL_law 3496 = .ok (.iload 7, 2) := by decide +kernel
theorem dL_law_3498 : decode cL_law 3498 = .ok (.ifCond .eq 7, 3) := by decide +kernel
theorem dL_law_3501 : decode cL_law 3501 = .ok (.lconst 1, 1) := by decide +kernel
theorem dL_law_3502 : decode cL_law 3502 = .ok (.goto 4, 3) := by decide +kernel
theorem dL_law_3505 : decode cL_law 3505 = .ok (.lconst 0, 1) := by decide +kernel
theorem dL_law_3506 : decode cL_law 3506 = .ok (.lcmp, 1) := by decide +kernel
theorem dL_law_3507 : decode cL_law 3507 = .ok (.ifCond .eq 5, 3) := by decide +kernel
theorem dL_law_3510 : decode cL_law 3510 = .ok (.iconst 0, 1) := by decide +kernel
theorem dL_law_3511 : decode cL_law 3511 = .ok (.ireturn, 1) := by decide +kernel
theorem dL_law_3512 : decode cL_law 3512 = .ok (.goto 476, 3) := by decide +kernel
theorem dL_law_3515 : decode cL_law 3515 = .ok (.aload_n 1, 1) := by decide +kernel
theorem dL_law_3516 : decode cL_law 3516 = .ok (.aload_n 0, 1) := by decide +kernel
theorem dL_law_3517 : decode cL_law 3517 = .ok (.iload 5, 2) := by decide +kernel
theorem dL_law_3519 : decode cL_law 3519 = .ok (.iconst 1, 1) := by decide +kernel
theorem dL_law_3520 : decode cL_law 3520 = .ok (.iadd, 1) := by decide +kernel
theorem dL_law_3521 : decode cL_law 3521 = .ok (.iaload, 1) := by decide +kernel
theorem dL_law_3522 : decode cL_law 3522 = .ok (.aload_n 0, 1) := by decide +kernel
theorem dL_law_3523 : decode cL_law 3523 = .ok (.iload 5, 2) := by decide +kernel
theorem dL_law_3525 : decode cL_law 3525 = .ok (.iconst 2, 1) := by decide +kernel
theorem dL_law_3526 : decode cL_law 3526 = .ok (.iadd, 1) := by decide +kernel
theorem dL_law_3527 : decode cL_law 3527 = .ok (.iaload, 1) := by decide +kernel
theorem dL_law_3528 : decode cL_law 3528 = .ok (.aload_n 3, 1) := by decide +kernel
theorem dL_law_3529 : decode cL_law 3529 = .ok (.invokestatic 343, 3) := by decide +kernel
theorem dL_law_3532 : decode cL_law 3532 = .ok (.istore 6, 2) := by decide +kernel
theorem dL_law_3534 : decode cL_law 3534 = .ok (.aload_n 2, 1) := by decide +kernel
theorem dL_law_3535 : decode cL_law 3535 = .ok (.aload_n 0, 1) := by decide +kernel
theorem dL_law_3536 : decode cL_law 3536 = .ok (.iload 5, 2) := by decide +kernel
theorem dL_law_3538 : decode cL_law 3538 = .ok (.iconst 1, 1) := by decide +kernel
theorem dL_law_3539 : decode cL_law 3539 = .ok (.iadd, 1) := by decide +kernel
theorem dL_law_3540 : decode cL_law 3540 = .ok (.iaload, 1) := by decide +kernel
theorem dL_law_3541 : decode cL_law 3541 = .ok (.aload_n 0, 1) := by decide +kernel
theorem dL_law_3542 : decode cL_law 3542 = .ok (.iload 5, 2) := by decide +kernel
theorem dL_law_3544 : decode cL_law 3544 = .ok (.iconst 2, 1) := by decide +kernel
theorem dL_law_3545 : decode cL_law 3545 = .ok (.iadd, 1) := by decide +kernel
theorem dL_law_3546 : decode cL_law 3546 = .ok (.iaload, 1) := by decide +kernel
theorem dL_law_3547 : decode cL_law 3547 = .ok (.invokevirtual 345, 3) := by decide +kernel
theorem dL_law_3550 : decode cL_law 3550 = .ok (.istore 7, 2) := by decide +kernel
theorem dL_law_3552 : decode cL_law 3552 = .ok (.aload_n 2, 1) := by decide +kernel
theorem dL_law_3553 : decode cL_law 3553 = .ok (.invokevirtual 189, 3) := by decide +kernel
theorem dL_law_3556 : decode cL_law 3556 = .ok (.iload 6, 2) := by decide +kernel
theorem dL_law_3558 : decode cL_law 3558 = .ok (.if_icmp .eq 5, 3) := by decide +kernel
theorem dL_law_3561 : decode cL_law 3561 = .ok (.iconst 0, 1) := by decide +kernel
theorem dL_law_3562 : decode cL_law 3562 = .ok (.ireturn, 1) := by decide +kernel
theorem dL_law_3563 : decode cL_law 3563 = .ok (.iload 6, 2) := by decide +kernel
theorem dL_law_3565 : decode cL_law 3565 = .ok (.ifCond .ne 15, 3) := by decide +kernel
theorem dL_law_3568 : decode cL_law 3568 = .ok (.aload_n 3, 1) := by decide +kernel
theorem dL_law_3569 : decode cL_law 3569 = .ok (.iconst 0, 1) := by decide +kernel
theorem dL_law_3570 : decode cL_law 3570 = .ok (.laload, 1) := by decide +kernel
theorem dL_law_3571 : decode cL_law 3571 = .ok (.iload 7, 2) := by decide +kernel
theorem dL_law_3573 : decode cL_law 3573 = .ok (.i2l, 1) := by decide +kernel
theorem dL_law_3574 : decode cL_law 3574 = .ok (.lcmp, 1) := by decide +kernel
theorem dL_law_3575 : decode cL_law 3575 = .ok (.ifCond .eq 5, 3) := by decide +kernel
theorem dL_law_3578 : decode cL_law 3578 = .ok (.iconst 0, 1) := by decide +kernel
theorem dL_law_3579 : decode cL_law 3579 = .ok (.ireturn, 1) := by decide +kernel
theorem dL_law_3580 : decode cL_law 3580 = .ok (.goto 408, 3) := by decide +kernel
theorem dL_law_3583 : decode cL_law 3583 = .ok (.aload_n 1, 1) := by decide +kernel
theorem dL_law_3584 : decode cL_law 3584 = .ok (.aload_n 0, 1) := by decide +kernel
theorem dL_law_3585 : decode cL_law 3585 = .ok (.iload 5, 2) := by decide +kernel
theorem dL_law_3587 : decode cL_law 3587 = .ok (.iconst 1, 1) := by decide +kernel
theorem dL_law_3588 : decode cL_law 3588 = .ok (.iadd, 1) := by decide +kernel
theorem dL_law_3589 : decode cL_law 3589 = .ok (.iaload, 1) := by decide +kernel
theorem dL_law_3590 : decode cL_law 3590 = .ok (.aload_n 0, 1) := by decide +kernel
theorem dL_law_3591 : decode cL_law 3591 = .ok (.iload 5, 2) := by decide +kernel
theorem dL_law_3593 : decode cL_law 3593 = .ok (.iconst 2, 1) := by decide +kernel
theorem dL_law_3594 : decode cL_law 3594 = .ok (.iadd, 1) := by decide +kernel
theorem dL_law_3595 : decode cL_law 3595 = .ok (.iaload, 1) := by decide +kernel
theorem dL_law_3596 : decode cL_law 3596 = .ok (.aload_n 3, 1) := by decide +kernel
theorem dL_law_3597 : decode cL_law 3597 = .ok (.invokestatic 346, 3) := by decide +kernel
theorem dL_law_3600 : decode cL_law 3600 = .ok (.istore 6, 2) := by decide +kernel
theorem dL_law_3602 : decode cL_law 3602 = .ok (.aload_n 2, 1) := by decide +kernel
theorem dL_law_3603 : decode cL_law 3603 = .ok (.aload_n 0, 1) := by decide +kernel
theorem dL_law_3604 : decode cL_law 3604 = .ok (.iload 5, 2) := by decide +kernel
theorem dL_law_3606 : decode cL_law 3606 = .ok (.iconst 1, 1) := by decide +kernel
theorem dL_law_3607 : decode cL_law 3607 = .ok (.iadd, 1) := by decide +kernel
theorem dL_law_3608 : decode cL_law 3608 = .ok (.iaload, 1) := by decide +kernel
theorem dL_law_3609 : decode cL_law 3609 = .ok (.aload_n 0, 1) := by decide +kernel
theorem dL_law_3610 : decode cL_law 3610 = .ok (.iload 5, 2) := by decide +kernel
theorem dL_law_3612 : decode cL_law 3612 = .ok (.iconst 2, 1) := by decide +kernel
theorem dL_law_3613 : decode cL_law 3613 = .ok (.iadd, 1) := by decide +kernel
theorem dL_law_3614 : decode cL_law 3614 = .ok (.iaload, 1) := by decide +kernel
theorem dL_law_3615 : decode cL_law 3615 = .ok (.invokevirtual 348, 3) := by decide +kernel
theorem dL_law_3618 : decode cL_law 3618 = .ok (.istore 7, 2) := by decide +kernel
theorem dL_law_3620 : decode cL_law 3620 = .ok (.aload_n 2, 1) := by decide +kernel
theorem dL_law_3621 : decode cL_law 3621 = .ok (.invokevirtual 189, 3) := by decide +kernel
theorem dL_law_3624 : decode cL_law 3624 = .ok (.iload 6, 2) := by decide +kernel
theorem dL_law_3626 : decode cL_law 3626 = .ok (.if_icmp .eq 5, 3) := by decide +kernel
theorem dL_law_3629 : decode cL_law 3629 = .ok (.iconst 0, 1) := by decide +kernel
theorem dL_law_3630 : decode cL_law 3630 = .ok (.ireturn, 1) := by decide +kernel
theorem dL_law_3631 : decode cL_law 3631 = .ok (.iload 6, 2) := by decide +kernel
theorem dL_law_3633 : decode cL_law 3633 = .ok (.ifCond .ne 15, 3) := by decide +kernel
theorem dL_law_3636 : decode cL_law 3636 = .ok (.aload_n 3, 1) := by decide +kernel
theorem dL_law_3637 : decode cL_law 3637 = .ok (.iconst 0, 1) := by decide +kernel
theorem dL_law_3638 : decode cL_law 3638 = .ok (.laload, 1) := by decide +kernel
theorem dL_law_3639 : decode cL_law 3639 = .ok (.iload 7, 2) := by decide +kernel
theorem dL_law_3641 : decode cL_law 3641 = .ok (.i2l, 1) := by decide +kernel
theorem dL_law_3642 : decode cL_law 3642 = .ok (.lcmp, 1) := by decide +kernel
theorem dL_law_3643 : decode cL_law 3643 = .ok (.ifCond .eq 5, 3) := by decide +kernel
theorem dL_law_3646 : decode cL_law 3646 = .ok (.iconst 0, 1) := by decide +kernel
theorem dL_law_3647 : decode cL_law 3647 = .ok (.ireturn, 1) := by decide +kernel
theorem dL_law_3648 : decode cL_law 3648 = .ok (.goto 340, 3) := by decide +kernel
theorem dL_law_3651 : decode cL_law 3651 = .ok (.aload_n 1, 1) := by decide +kernel
theorem dL_law_3652 : decode cL_law 3652 = .ok (.aload_n 0, 1) := by decide +kernel
theorem dL_law_3653 : decode cL_law 3653 = .ok (.iload 5, 2) := by decide +kernel
theorem dL_law_3655 : decode cL_law 3655 = .ok (.iconst 1, 1) := by decide +kernel
theorem dL_law_3656 : decode cL_law 3656 = .ok (.iadd, 1) := by decide +kernel
theorem dL_law_3657 : decode cL_law 3657 = .ok (.iaload, 1) := by decide +kernel
theorem dL_law_3658 : decode cL_law 3658 = .ok (.aload_n 0, 1) := by decide +kernel
theorem dL_law_3659 : decode cL_law 3659 = .ok (.iload 5, 2) := by decide +kernel
theorem dL_law_3661 : decode cL_law 3661 = .ok (.iconst 2, 1) := by decide +kernel
theorem dL_law_3662 : decode cL_law 3662 = .ok (.iadd, 1) := by decide +kernel
theorem dL_law_3663 : decode cL_law 3663 = .ok (.iaload, 1) := by decide +kernel
theorem dL_law_3664 : decode cL_law 3664 = .ok (.aload_n 3, 1) := by decide +kernel
theorem dL_law_3665 : decode cL_law 3665 = .ok (.invokestatic 349, 3) := by decide +kernel
theorem dL_law_3668 : decode cL_law 3668 = .ok (.istore 6, 2) := by decide +kernel
theorem dL_law_3670 : decode cL_law 3670 = .ok (.aload_n 2, 1) := by decide +kernel
theorem dL_law_3671 : decode cL_law 3671 = .ok (.aload_n 0, 1) := by decide +kernel
theorem dL_law_3672 : decode cL_law 3672 = .ok (.iload 5, 2) := by decide +kernel
theorem dL_law_3674 : decode cL_law 3674 = .ok (.iconst 1, 1) := by decide +kernel
theorem dL_law_3675 : decode cL_law 3675 = .ok (.iadd, 1) := by decide +kernel
theorem dL_law_3676 : decode cL_law 3676 = .ok (.iaload, 1) := by decide +kernel
theorem dL_law_3677 : decode cL_law 3677 = .ok (.aload_n 0, 1) := by decide +kernel
theorem dL_law_3678 : decode cL_law 3678 = .ok (.iload 5, 2) := by decide +kernel
theorem dL_law_3680 : decode cL_law 3680 = .ok (.iconst 2, 1) := by decide +kernel
theorem dL_law_3681 : decode cL_law 3681 = .ok (.iadd, 1) := by decide +kernel
theorem dL_law_3682 : decode cL_law 3682 = .ok (.iaload, 1) := by decide +kernel
theorem dL_law_3683 : decode cL_law 3683 = .ok (.invokevirtual 351, 3) := by decide +kernel
theorem dL_law_3686 : decode cL_law 3686 = .ok (.istore 7, 2) := by decide +kernel
theorem dL_law_3688 : decode cL_law 3688 = .ok (.aload_n 2, 1) := by decide +kernel
theorem dL_law_3689 : decode cL_law 3689 = .ok (.invokevirtual 189, 3) := by decide +kernel
theorem dL_law_3692 : decode cL_law 3692 = .ok (.iload 6, 2) := by decide +kernel
theorem dL_law_3694 : decode cL_law 3694 = .ok (.if_icmp .eq 5, 3) := by decide +kernel
theorem dL_law_3697 : decode cL_law 3697 = .ok (.iconst 0, 1) := by decide +kernel
theorem dL_law_3698 : decode cL_law 3698 = .ok (.ireturn, 1) := by decide +kernel
theorem dL_law_3699 : decode cL_law 3699 = .ok (.iload 6, 2) := by decide +kernel
theorem dL_law_3701 : decode cL_law 3701 = .ok (.ifCond .ne 15, 3) := by decide +kernel
theorem dL_law_3704 : decode cL_law 3704 = .ok (.aload_n 3, 1) := by decide +kernel
theorem dL_law_3705 : decode cL_law 3705 = .ok (.iconst 0, 1) := by decide +kernel
theorem dL_law_3706 : decode cL_law 3706 = .ok (.laload, 1) := by decide +kernel
theorem dL_law_3707 : decode cL_law 3707 = .ok (.iload 7, 2) := by decide +kernel
theorem dL_law_3709 : decode cL_law 3709 = .ok (.i2l, 1) := by decide +kernel
theorem dL_law_3710 : decode cL_law 3710 = .ok (.lcmp, 1) := by decide +kernel
theorem dL_law_3711 : decode cL_law 3711 = .ok (.ifCond .eq 5, 3) := by decide +kernel
theorem dL_law_3714 : decode cL_law 3714 = .ok (.iconst 0, 1) := by decide +kernel
theorem dL_law_3715 : decode cL_law 3715 = .ok (.ireturn, 1) := by decide +kernel
theorem dL_law_3716 : decode cL_law 3716 = .ok (.goto 272, 3) := by decide +kernel
theorem dL_law_3719 : decode cL_law 3719 = .ok (.aload_n 1, 1) := by decide +kernel
theorem dL_law_3720 : decode cL_law 3720 = .ok (.aload_n 0, 1) := by decide +kernel
theorem dL_law_3721 : decode cL_law 3721 = .ok (.iload 5, 2) := by decide +kernel
theorem dL_law_3723 : decode cL_law 3723 = .ok (.iconst 1, 1) := by decide +kernel
theorem dL_law_3724 : decode cL_law 3724 = .ok (.iadd, 1) := by decide +kernel
theorem dL_law_3725 : decode cL_law 3725 = .ok (.iaload, 1) := by decide +kernel
theorem dL_law_3726 : decode cL_law 3726 = .ok (.aload_n 3, 1) := by decide +kernel
theorem dL_law_3727 : decode cL_law 3727 = .ok (.invokestatic 352, 3) := by decide +kernel
theorem dL_law_3730 : decode cL_law 3730 = .ok (.istore 6, 2) := by decide +kernel
theorem dL_law_3732 : decode cL_law 3732 = .ok (.aload_n 2, 1) := by decide +kernel
theorem dL_law_3733 : decode cL_law 3733 = .ok (.aload_n 0, 1) := by decide +kernel
theorem dL_law_3734 : decode cL_law 3734 = .ok (.iload 5, 2) := by decide +kernel
theorem dL_law_3736 : decode cL_law 3736 = .ok (.iconst 1, 1) := by decide +kernel
theorem dL_law_3737 : decode cL_law 3737 = .ok (.iadd, 1) := by decide +kernel
theorem dL_law_3738 : decode cL_law 3738 = .ok (.iaload, 1) := by decide +kernel
theorem dL_law_3739 : decode cL_law 3739 = .ok (.invokevirtual 354, 3) := by decide +kernel
theorem dL_law_3742 : decode cL_law 3742 = .ok (.istore 7, 2) := by decide +kernel
theorem dL_law_3744 : decode cL_law 3744 = .ok (.aload_n 2, 1) := by decide +kernel
theorem dL_law_3745 : decode cL_law 3745 = .ok (.invokevirtual 189, 3) := by decide +kernel
theorem dL_law_3748 : decode cL_law 3748 = .ok (.iload 6, 2) := by decide +kernel
theorem dL_law_3750 : decode cL_law 3750 = .ok (.if_icmp .eq 5, 3) := by decide +kernel
theorem dL_law_3753 : decode cL_law 3753 = .ok (.iconst 0, 1) := by decide +kernel
theorem dL_law_3754 : decode cL_law 3754 = .ok (.ireturn, 1) := by decide +kernel
theorem dL_law_3755 : decode cL_law 3755 = .ok (.iload 6, 2) := by decide +kernel
theorem dL_law_3757 : decode cL_law 3757 = .ok (.ifCond .ne 15, 3) := by decide +kernel
theorem dL_law_3760 : decode cL_law 3760 = .ok (.aload_n 3, 1) := by decide +kernel
theorem dL_law_3761 : decode cL_law 3761 = .ok (.iconst 0, 1) := by decide +kernel
theorem dL_law_3762 : decode cL_law 3762 = .ok (.laload, 1) := by decide +kernel
theorem dL_law_3763 : decode cL_law 3763 = .ok (.iload 7, 2) := by decide +kernel
theorem dL_law_3765 : decode cL_law 3765 = .ok (.i2l, 1) := by decide +kernel
theorem dL_law_3766 : decode cL_law 3766 = .ok (.lcmp, 1) := by decide +kernel
theorem dL_law_3767 : decode cL_law 3767 = .ok (.ifCond .eq 5, 3) := by decide +kernel
theorem dL_law_3770 : decode cL_law 3770 = .ok (.iconst 0, 1) := by decide +kernel
theorem dL_law_3771 : decode cL_law 3771 = .ok (.ireturn, 1) := by decide +kernel
theorem dL_law_3772 : decode cL_law 3772 = .ok (.goto 216, 3) := by decide +kernel
theorem dL_law_3775 : decode cL_law 3775 = .ok (.aload_n 1, 1) := by decide +kernel
theorem dL_law_3776 : decode cL_law 3776 = .ok (.aload_n 0, 1) := by decide +kernel
theorem dL_law_3777 : decode cL_law 3777 = .ok (.iload 5, 2) := by decide +kernel
theorem dL_law_3779 : decode cL_law 3779 = .ok (.iconst 1, 1) := by decide +kernel
theorem dL_law_3780 : decode cL_law 3780 = .ok (.iadd, 1) := by decide +kernel
theorem dL_law_3781 : decode cL_law 3781 = .ok (.iaload, 1) := by decide +kernel
theorem dL_law_3782 : decode cL_law 3782 = .ok (.aload_n 3, 1) := by decide +kernel
theorem dL_law_3783 : decode cL_law 3783 = .ok (.invokestatic 355, 3) := by decide +kernel
theorem dL_law_3786 : decode cL_law 3786 = .ok (.istore 6, 2) := by decide +kernel
theorem dL_law_3788 : decode cL_law 3788 = .ok (.aload_n 2, 1) := by decide +kernel
theorem dL_law_3789 : decode cL_law 3789 = .ok (.aload_n 0, 1) := by decide +kernel
theorem dL_law_3790 : decode cL_law 3790 = .ok (.iload 5, 2) := by decide +kernel
theorem dL_law_3792 : decode cL_law 3792 = .ok (.iconst 1, 1) := by decide +kernel
theorem dL_law_3793 : decode cL_law 3793 = .ok (.iadd, 1) := by decide +kernel
theorem dL_law_3794 : decode cL_law 3794 = .ok (.iaload, 1) := by decide +kernel
theorem dL_law_3795 : decode cL_law 3795 = .ok (.invokevirtual 357, 3) := by decide +kernel
theorem dL_law_3798 : decode cL_law 3798 = .ok (.istore 7, 2) := by decide +kernel
theorem dL_law_3800 : decode cL_law 3800 = .ok (.aload_n 2, 1) := by decide +kernel
theorem dL_law_3801 : decode cL_law 3801 = .ok (.invokevirtual 189, 3) := by decide +kernel
theorem dL_law_3804 : decode cL_law 3804 = .ok (.iload 6, 2) := by decide +kernel
theorem dL_law_3806 : decode cL_law 3806 = .ok (.if_icmp .eq 5, 3) := by decide +kernel
theorem dL_law_3809 : decode cL_law 3809 = .ok (.iconst 0, 1) := by decide +kernel
theorem dL_law_3810 : decode cL_law 3810 = .ok (.ireturn, 1) := by decide +kernel
theorem dL_law_3811 : decode cL_law 3811 = .ok (.iload 6, 2) := by decide +kernel
theorem dL_law_3813 : decode cL_law 3813 = .ok (.ifCond .ne 15, 3) := by decide +kernel
theorem dL_law_3816 : decode cL_law 3816 = .ok (.aload_n 3, 1) := by decide +kernel
theorem dL_law_3817 : decode cL_law 3817 = .ok (.iconst 0, 1) := by decide +kernel
theorem dL_law_3818 : decode cL_law 3818 = .ok (.laload, 1) := by decide +kernel
theorem dL_law_3819 : decode cL_law 3819 = .ok (.iload 7, 2) := by decide +kernel
theorem dL_law_3821 : decode cL_law 3821 = .ok (.i2l, 1) := by decide +kernel
theorem dL_law_3822 : decode cL_law 3822 = .ok (.lcmp, 1) := by decide +kernel
theorem dL_law_3823 : decode cL_law 3823 = .ok (.ifCond .eq 5, 3) := by decide +kernel
theorem dL_law_3826 : decode cL_law 3826 = .ok (.iconst 0, 1) := by decide +kernel
theorem dL_law_3827 : decode cL_law 3827 = .ok (.ireturn, 1) := by decide +kernel
theorem dL_law_3828 : decode cL_law 3828 = .ok (.goto 160, 3) := by decide +kernel
theorem dL_law_3831 : decode cL_law 3831 = .ok (.aload_n 1, 1) := by decide +kernel
theorem dL_law_3832 : decode cL_law 3832 = .ok (.invokevirtual 358, 3) := by decide +kernel
theorem dL_law_3835 : decode cL_law 3835 = .ok (.aload_n 2, 1) := by decide +kernel
theorem dL_law_3836 : decode cL_law 3836 = .ok (.invokevirtual 361, 3) := by decide +kernel
theorem dL_law_3839 : decode cL_law 3839 = .ok (.if_icmp .eq 149, 3) := by decide +kernel
theorem dL_law_3842 : decode cL_law 3842 = .ok (.iconst 0, 1) := by decide +kernel
theorem dL_law_3843 : decode cL_law 3843 = .ok (.ireturn, 1) := by decide +kernel
theorem dL_law_3844 : decode cL_law 3844 = .ok (.aload_n 1, 1) := by decide +kernel
theorem dL_law_3845 : decode cL_law 3845 = .ok (.invokevirtual 362, 3) := by decide +kernel
theorem dL_law_3848 : decode cL_law 3848 = .ok (.dstore 6, 2) := by decide +kernel
theorem dL_law_3850 : decode cL_law 3850 = .ok (.aload_n 2, 1) := by decide +kernel
theorem dL_law_3851 : decode cL_law 3851 = .ok (.invokevirtual 366, 3) := by decide +kernel
theorem dL_law_3854 : decode cL_law 3854 = .ok (.dstore 8, 2) := by decide +kernel
theorem dL_law_3856 : decode cL_law 3856 = .ok (.dload 6, 2) := by decide +kernel
theorem dL_law_3858 : decode cL_law 3858 = .ok (.dload 8, 2) := by decide +kernel
theorem dL_law_3860 : decode cL_law 3860 = .ok (.dcmp .l, 1) := by decide +kernel
theorem dL_law_3861 : decode cL_law 3861 = .ok (.ifCond .eq 21, 3) := by decide +kernel
theorem dL_law_3864 : decode cL_law 3864 = .ok (.dload 6, 2) := by decide +kernel
theorem dL_law_3866 : decode cL_law 3866 = .ok (.dload 6, 2) := by decide +kernel
theorem dL_law_3868 : decode cL_law 3868 = .ok (.dcmp .l, 1) := by decide +kernel
theorem dL_law_3869 : decode cL_law 3869 = .ok (.ifCond .eq 11, 3) := by decide +kernel
theorem dL_law_3872 : decode cL_law 3872 = .ok (.dload 8, 2) := by decide +kernel
theorem dL_law_3874 : decode cL_law 3874 = .ok (.dload 8, 2) := by decide +kernel
theorem dL_law_3876 : decode cL_law 3876 = .ok (.dcmp .l, 1) := by decide +kernel
theorem dL_law_3877 : decode cL_law 3877 = .ok (.ifCond .ne 5, 3) := by decide +kernel
theorem dL_law_3880 : decode cL_law 3880 = .ok (.iconst 0, 1) := by decide +kernel
theorem dL_law_3881 : decode cL_law 3881 = .ok (.ireturn, 1) := by decide +kernel
theorem dL_law_3882 : decode cL_law 3882 = .ok (.goto 106, 3) := by decide +kernel
theorem dL_law_3885 : decode cL_law 3885 = .ok (.aload_n 1, 1) := by decide +kernel
theorem dL_law_3886 : decode cL_law 3886 = .ok (.aload_n 0, 1) := by decide +kernel
theorem dL_law_3887 : decode cL_law 3887 = .ok (.iload 5, 2) := by decide +kernel
theorem dL_law_3889 : decode cL_law 3889 = .ok (.iconst 1, 1) := by decide +kernel
theorem dL_law_3890 : decode cL_law 3890 = .ok (.iadd, 1) := by decide +kernel
theorem dL_law_3891 : decode cL_law 3891 = .ok (.iaload, 1) := by decide +kernel
theorem dL_law_3892 : decode cL_law 3892 = .ok (.aload_n 0, 1) := by decide +kernel
theorem dL_law_3893 : decode cL_law 3893 = .ok (.iload 5, 2) := by decide +kernel
theorem dL_law_3895 : decode cL_law 3895 = .ok (.iconst 2, 1) := by decide +kernel
theorem dL_law_3896 : decode cL_law 3896 = .ok (.iadd, 1) := by decide +kernel
theorem dL_law_3897 : decode cL_law 3897 = .ok (.iaload, 1) := by decide +kernel
theorem dL_law_3898 : decode cL_law 3898 = .ok (.aload 4, 2) := by decide +kernel
theorem dL_law_3900 : decode cL_law 3900 = .ok (.invokestatic 367, 3) := by decide +kernel
theorem dL_law_3903 : decode cL_law 3903 = .ok (.istore 6, 2) := by decide +kernel
theorem dL_law_3905 : decode cL_law 3905 = .ok (.aload_n 2, 1) := by decide +kernel
theorem dL_law_3906 : decode cL_law 3906 = .ok (.aload_n 0, 1) := by decide +kernel
theorem dL_law_3907 : decode cL_law 3907 = .ok (.iload 5, 2) := by decide +kernel
theorem dL_law_3909 : decode cL_law 3909 = .ok (.iconst 1, 1) := by decide +kernel
theorem dL_law_3910 : decode cL_law 3910 = .ok (.iadd, 1) := by decide +kernel
theorem dL_law_3911 : decode cL_law 3911 = .ok (.iaload, 1) := by decide +kernel
theorem dL_law_3912 : decode cL_law 3912 = .ok (.aload_n 0, 1) := by decide +kernel
theorem dL_law_3913 : decode cL_law 3913 = .ok (.iload 5, 2) := by decide +kernel
