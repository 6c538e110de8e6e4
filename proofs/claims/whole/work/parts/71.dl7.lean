-- behind:
theorem dL_law_2668 : decode cL_law 2668 = .ok (.ireturn, 1) := by decide +kernel
theorem dL_law_2669 : decode cL_law 2669 = .ok (.goto 789, 3) := by decide +kernel
theorem dL_law_2672 : decode cL_law 2672 = .ok (.aload_n 1, 1) := by decide +kernel
theorem dL_law_2673 : decode cL_law 2673 = .ok (.invokevirtual 337, 3) := by decide +kernel
theorem dL_law_2676 : decode cL_law 2676 = .ok (.dstore 5, 2) := by decide +kernel
theorem dL_law_2678 : decode cL_law 2678 = .ok (.aload_n 2, 1) := by decide +kernel
theorem dL_law_2679 : decode cL_law 2679 = .ok (.invokevirtual 341, 3) := by decide +kernel
theorem dL_law_2682 : decode cL_law 2682 = .ok (.dstore 7, 2) := by decide +kernel
theorem dL_law_2684 : decode cL_law 2684 = .ok (.dload 5, 2) := by decide +kernel
theorem dL_law_2686 : decode cL_law 2686 = .ok (.dload 7, 2) := by decide +kernel
theorem dL_law_2688 : decode cL_law 2688 = .ok (.dcmp .l, 1) := by decide +kernel
theorem dL_law_2689 : decode cL_law 2689 = .ok (.ifCond .eq 21, 3) := by decide +kernel
theorem dL_law_2692 : decode cL_law 2692 = .ok (.dload 5, 2) := by decide +kernel
theorem dL_law_2694 : decode cL_law 2694 = .ok (.dload 5, 2) := by decide +kernel
theorem dL_law_2696 : decode cL_law 2696 = .ok (.dcmp .l, 1) := by decide +kernel
theorem dL_law_2697 : decode cL_law 2697 = .ok (.ifCond .eq 11, 3) := by decide +kernel
theorem dL_law_2700 : decode cL_law 2700 = .ok (.dload 7, 2) := by decide +kernel
theorem dL_law_2702 : decode cL_law 2702 = .ok (.dload 7, 2) := by decide +kernel
theorem dL_law_2704 : decode cL_law 2704 = .ok (.dcmp .l, 1) := by decide +kernel
theorem dL_law_2705 : decode cL_law 2705 = .ok (.ifCond .ne 5, 3) := by decide +kernel
theorem dL_law_2708 : decode cL_law 2708 = .ok (.iconst 0, 1) := by decide +kernel
theorem dL_law_2709 : decode cL_law 2709 = .ok (.ireturn, 1) := by decide +kernel
theorem dL_law_2710 : decode cL_law 2710 = .ok (.goto 748, 3) := by decide +kernel
theorem dL_law_2713 : decode cL_law 2713 = .ok (.aload_n 1, 1) := by decide +kernel
theorem dL_law_2714 : decode cL_law 2714 = .ok (.invokevirtual 342, 3) := by decide +kernel
theorem dL_law_2717 : decode cL_law 2717 = .ok (.f2d, 1) := by decide +kernel
theorem dL_law_2718 : decode cL_law 2718 = .ok (.dstore 5, 2) := by decide +kernel
theorem dL_law_2720 : decode cL_law 2720 = .ok (.aload_n 2, 1) := by decide +kernel
theorem dL_law_2721 : decode cL_law 2721 = .ok (.invokevirtual 346, 3) := by decide +kernel
theorem dL_law_2724 : decode cL_law 2724 = .ok (.f2d, 1) := by decide +kernel
theorem dL_law_2725 : decode cL_law 2725 = .ok (.dstore 7, 2) := by decide +kernel
theorem dL_law_2727 : decode cL_law 2727 = .ok (.dload 5, 2) := by decide +kernel
theorem dL_law_2729 : decode cL_law 2729 = .ok (.dload 7, 2) := by decide +kernel
theorem dL_law_2731 : decode cL_law 2731 = .ok (.dcmp .l, 1) := by decide +kernel
theorem dL_law_2732 : decode cL_law 2732 = .ok (.ifCond .eq 21, 3) := by decide +kernel
theorem dL_law_2735 : decode cL_law 2735 = .ok (.dload 5, 2) := by decide +kernel
theorem dL_law_2737 : decode cL_law 2737 = .ok (.dload 5, 2) := by decide +kernel
theorem dL_law_2739 : decode cL_law 2739 = .ok (.dcmp .l, 1) := by decide +kernel
theorem dL_law_2740 : decode cL_law 2740 = .ok (.ifCond .eq 11, 3) := by decide +kernel
theorem dL_law_2743 : decode cL_law 2743 = .ok (.dload 7, 2) := by decide +kernel
theorem dL_law_2745 : decode cL_law 2745 = .ok (.dload 7, 2) := by decide +kernel
theorem dL_law_2747 : decode cL_law 2747 = .ok (.dcmp .l, 1) := by decide +kernel
theorem dL_law_2748 : decode cL_law 2748 = .ok (.ifCond .ne 5, 3) := by decide +kernel
theorem dL_law_2751 : decode cL_law 2751 = .ok (.iconst 0, 1) := by decide +kernel
theorem dL_law_2752 : decode cL_law 2752 = .ok (.ireturn, 1) := by decide +kernel
theorem dL_law_2753 : decode cL_law 2753 = .ok (.goto 705, 3) := by decide +kernel
theorem dL_law_2756 : decode cL_law 2756 = .ok (.aload_n 1, 1) := by decide +kernel
theorem dL_law_2757 : decode cL_law 2757 = .ok (.aload_n 0, 1) := by decide +kernel
theorem dL_law_2758 : decode cL_law 2758 = .ok (.iload 4, 2) := by decide +kernel
theorem dL_law_2760 : decode cL_law 2760 = .ok (.iconst 1, 1) := by decide +kernel
theorem dL_law_2761 : decode cL_law 2761 = .ok (.iadd, 1) := by decide +kernel
theorem dL_law_2762 : decode cL_law 2762 = .ok (.iaload, 1) := by decide +kernel
theorem dL_law_2763 : decode cL_law 2763 = .ok (.aload_n 0, 1) := by decide +kernel
theorem dL_law_2764 : decode cL_law 2764 = .ok (.iload 4, 2) := by decide +kernel
theorem dL_law_2766 : decode cL_law 2766 = .ok (.iconst 2, 1) := by decide +kernel
theorem dL_law_2767 : decode cL_law 2767 = .ok (.iadd, 1) := by decide +kernel
theorem dL_law_2768 : decode cL_law 2768 = .ok (.iaload, 1) := by decide +kernel
theorem dL_law_2769 : decode cL_law 2769 = .ok (.aload_n 3, 1) := by decide +kernel
theorem dL_law_2770 : decode cL_law 2770 = .ok (.invokestatic 347, 3) := by decide +kernel
theorem dL_law_2773 : decode cL_law 2773 = .ok (.istore 5, 2) := by decide +kernel
theorem dL_law_2775 : decode cL_law 2775 = .ok (.aload_n 2, 1) := by decide +kernel
theorem dL_law_2776 : decode cL_law 2776 = .ok (.aload_n 0, 1) := by decide +kernel
theorem dL_law_2777 : decode cL_law 2777 = .ok (.iload 4, 2) := by decide +kernel
theorem dL_law_2779 : decode cL_law 2779 = .ok (.iconst 1, 1) := by decide +kernel
theorem dL_law_2780 : decode cL_law 2780 = .ok (.iadd, 1) := by decide +kernel
theorem dL_law_2781 : decode cL_law 2781 = .ok (.iaload, 1) := by decide +kernel
theorem dL_law_2782 : decode cL_law 2782 = .ok (.aload_n 0, 1) := by decide +kernel
theorem dL_law_2783 : decode cL_law 2783 = .ok (.iload 4, 2) := by decide +kernel
theorem dL_law_2785 : decode cL_law 2785 = .ok (.iconst 2, 1) := by decide +kernel
theorem dL_law_2786 : decode cL_law 2786 = .ok (.iadd, 1) := by decide +kernel
theorem dL_law_2787 : decode cL_law 2787 = .ok (.iaload, 1) := by decide +kernel
theorem dL_law_2788 : decode cL_law 2788 = .ok (.invokevirtual 349, 3) := by decide +kernel
theorem dL_law_2791 : decode cL_law 2791 = .ok (.istore 6, 2) := by decide +kernel
theorem dL_law_2793 : decode cL_law 2793 = .ok (.aload_n 2, 1) := by decide +kernel
theorem dL_law_2794 : decode cL_law 2794 = .ok (.invokevirtual 175, 3) := by decide +kernel
theorem dL_law_2797 : decode cL_law 2797 = .ok (.iload 5, 2) := by decide +kernel
theorem dL_law_2799 : decode cL_law 2799 = .ok (.if_icmp .eq 5, 3) := by decide +kernel
theorem dL_law_2802 : decode cL_law 2802 = .ok (.iconst 0, 1) := by decide +kernel
theorem dL_law_2803 : decode cL_law 2803 = .ok (.ireturn, 1) := by decide +kernel
theorem dL_law_2804 : decode cL_law 2804 = .ok (.iload 5, 2) := by decide +kernel
theorem dL_law_2806 : decode cL_law 2806 = .ok (.ifCond .ne 15, 3) := by decide +kernel
theorem dL_law_2809 : decode cL_law 2809 = .ok (.aload_n 3, 1) := by decide +kernel
theorem dL_law_2810 : decode cL_law 2810 = .ok (.iconst 0, 1) := by decide +kernel
theorem dL_law_2811 : decode cL_law 2811 = .ok (.laload, 1) := by decide +kernel
theorem dL_law_2812 : decode cL_law 2812 = .ok (.iload 6, 2) := by decide +kernel
theorem dL_law_2814 : decode cL_law 2814 = .ok (.i2l, 1) := by decide +kernel
theorem dL_law_2815 : decode cL_law 2815 = .ok (.lcmp, 1) := by decide +kernel
theorem dL_law_2816 : decode cL_law 2816 = .ok (.ifCond .eq 5, 3) := by decide +kernel
theorem dL_law_2819 : decode cL_law 2819 = .ok (.iconst 0, 1) := by decide +kernel
theorem dL_law_2820 : decode cL_law 2820 = .ok (.ireturn, 1) := by decide +kernel
theorem dL_law_2821 : decode cL_law 2821 = .ok (.goto 637, 3) := by decide +kernel
theorem dL_law_2824 : decode cL_law 2824 = .ok (.aload_n 1, 1) := by decide +kernel
theorem dL_law_2825 : decode cL_law 2825 = .ok (.aload_n 0, 1) := by decide +kernel
theorem dL_law_2826 : decode cL_law 2826 = .ok (.iload 4, 2) := by decide +kernel
theorem dL_law_2828 : decode cL_law 2828 = .ok (.iconst 1, 1) := by decide +kernel
theorem dL_law_2829 : decode cL_law 2829 = .ok (.iadd, 1) := by decide +kernel
theorem dL_law_2830 : decode cL_law 2830 = .ok (.iaload, 1) := by decide +kernel
theorem dL_law_2831 : decode cL_law 2831 = .ok (.aload_n 3, 1) := by decide +kernel
theorem dL_law_2832 : decode cL_law 2832 = .ok (.invokestatic 350, 3) := by decide +kernel
theorem dL_law_2835 : decode cL_law 2835 = .ok (.istore 5, 2) := by decide +kernel
theorem dL_law_2837 : decode cL_law 2837 = .ok (.aload_n 2, 1) := by decide +kernel
theorem dL_law_2838 : decode cL_law 2838 = .ok (.aload_n 0, 1) := by decide +kernel
theorem dL_law_2839 : decode cL_law 2839 = .ok (.iload 4, 2) := by decide +kernel
theorem dL_law_2841 : decode cL_law 2841 = .ok (.iconst 1, 1) := by decide +kernel
theorem dL_law_2842 : decode cL_law 2842 = .ok (.iadd, 1) := by decide +kernel
theorem dL_law_2843 : decode cL_law 2843 = .ok (.iaload, 1) := by decide +kernel
theorem dL_law_2844 : decode cL_law 2844 = .ok (.invokevirtual 352, 3) := by decide +kernel
theorem dL_law_2847 : decode cL_law 2847 = .ok (.istore 6, 2) := by decide +kernel
theorem dL_law_2849 : decode cL_law 2849 = .ok (.aload_n 2, 1) := by decide +kernel
theorem dL_law_2850 : decode cL_law 2850 = .ok (.invokevirtual 175, 3) := by decide +kernel
theorem dL_law_2853 : decode cL_law 2853 = .ok (.iload 5, 2) := by decide +kernel
theorem dL_law_2855 : decode cL_law 2855 = .ok (.if_icmp .eq 5, 3) := by decide +kernel
theorem dL_law_2858 : decode cL_law 2858 = .ok (.iconst 0, 1) := by decide +kernel
theorem dL_law_2859 : decode cL_law 2859 = .ok (.ireturn, 1) := by decide +kernel
theorem dL_law_2860 : decode cL_law 2860 = .ok (.iload 5, 2) := by decide +kernel
theorem dL_law_2862 : decode cL_law 2862 = .ok (.ifCond .ne 15, 3) := by decide +kernel
theorem dL_law_2865 : decode cL_law 2865 = .ok (.aload_n 3, 1) := by decide +kernel
theorem dL_law_2866 : decode cL_law 2866 = .ok (.iconst 0, 1) := by decide +kernel
theorem dL_law_2867 : decode cL_law 2867 = .ok (.laload, 1) := by decide +kernel
theorem dL_law_2868 : decode cL_law 2868 = .ok (.iload 6, 2) := by decide +kernel
theorem dL_law_2870 : decode cL_law 2870 = .ok (.i2l, 1) := by decide +kernel
theorem dL_law_2871 : decode cL_law 2871 = .ok (.lcmp, 1) := by decide +kernel
theorem dL_law_2872 : decode cL_law 2872 = .ok (.ifCond .eq 5, 3) := by decide +kernel
theorem dL_law_2875 : decode cL_law 2875 = .ok (.iconst 0, 1) := by decide +kernel
theorem dL_law_2876 : decode cL_law 2876 = .ok (.ireturn, 1) := by decide +kernel
theorem dL_law_2877 : decode cL_law 2877 = .ok (.goto 581, 3) := by decide +kernel
theorem dL_law_2880 : decode cL_law 2880 = .ok (.aload_n 1, 1) := by decide +kernel
theorem dL_law_2881 : decode cL_law 2881 = .ok (.aload_n 0, 1) := by decide +kernel
theorem dL_law_2882 : decode cL_law 2882 = .ok (.iload 4, 2) := by decide +kernel
theorem dL_law_2884 : decode cL_law 2884 = .ok (.iconst 1, 1) := by decide +kernel
theorem dL_law_2885 : decode cL_law 2885 = .ok (.iadd, 1) := by decide +kernel
theorem dL_law_2886 : decode cL_law 2886 = .ok (.iaload, 1) := by decide +kernel
theorem dL_law_2887 : decode cL_law 2887 = .ok (.aload_n 0, 1) := by decide +kernel
theorem dL_law_2888 : decode cL_law 2888 = .ok (.iload 4, 2) := by decide +kernel
theorem dL_law_2890 : decode cL_law 2890 = .ok (.iconst 2, 1) := by decide +kernel
theorem dL_law_2891 : decode cL_law 2891 = .ok (.iadd, 1) := by decide +kernel
theorem dL_law_2892 : decode cL_law 2892 = .ok (.iaload, 1) := by decide +kernel
theorem dL_law_2893 : decode cL_law 2893 = .ok (.aload_n 0, 1) := by decide +kernel
theorem dL_law_2894 : decode cL_law 2894 = .ok (.iload 4, 2) := by decide +kernel
theorem dL_law_2896 : decode cL_law 2896 = .ok (.iconst 3, 1) := by decide +kernel
theorem dL_law_2897 : decode cL_law 2897 = .ok (.iadd, 1) := by decide +kernel
theorem dL_law_2898 : decode cL_law 2898 = .ok (.iaload, 1) := by decide +kernel
theorem dL_law_2899 : decode cL_law 2899 = .ok (.aload_n 0, 1) := by decide +kernel
theorem dL_law_2900 : decode cL_law 2900 = .ok (.iload 4, 2) := by decide +kernel
theorem dL_law_2902 : decode cL_law 2902 = .ok (.iconst 4, 1) := by decide +kernel
theorem dL_law_2903 : decode cL_law 2903 = .ok (.iadd, 1) := by decide +kernel
theorem dL_law_2904 : decode cL_law 2904 = .ok (.iaload, 1) := by decide +kernel
theorem dL_law_2905 : decode cL_law 2905 = .ok (.aload_n 0, 1) := by decide +kernel
theorem dL_law_2906 : decode cL_law 2906 = .ok (.iload 4, 2) := by decide +kernel
theorem dL_law_2908 : decode cL_law 2908 = .ok (.iconst 5, 1) := by decide +kernel
theorem dL_law_2909 : decode cL_law 2909 = .ok (.iadd, 1) := by decide +kernel
theorem dL_law_2910 : decode cL_law 2910 = .ok (.iaload, 1) := by decide +kernel
theorem dL_law_2911 : decode cL_law 2911 = .ok (.aload_n 3, 1) := by decide +kernel
theorem dL_law_2912 : decode cL_law 2912 = .ok (.invokestatic 353, 3) := by decide +kernel
theorem dL_law_2915 : decode cL_law 2915 = .ok (.istore 5, 2) := by decide +kernel
theorem dL_law_2917 : decode cL_law 2917 = .ok (.aload_n 2, 1) := by decide +kernel
theorem dL_law_2918 : decode cL_law 2918 = .ok (.aload_n 0, 1) := by decide +kernel
theorem dL_law_2919 : decode cL_law 2919 = .ok (.iload 4, 2) := by decide +kernel
theorem dL_law_2921 : decode cL_law 2921 = .ok (.iconst 1, 1) := by decide +kernel
theorem dL_law_2922 : decode cL_law 2922 = .ok (.iadd, 1) := by decide +kernel
theorem dL_law_2923 : decode cL_law 2923 = .ok (.iaload, 1) := by decide +kernel
theorem dL_law_2924 : decode cL_law 2924 = .ok (.aload_n 0, 1) := by decide +kernel
theorem dL_law_2925 : decode cL_law 2925 = .ok (.iload 4, 2) := by decide +kernel
theorem dL_law_2927 : decode cL_law 2927 = .ok (.iconst 2, 1) := by decide +kernel
theorem dL_law_2928 : decode cL_law 2928 = .ok (.iadd, 1) := by decide +kernel
theorem dL_law_2929 : decode cL_law 2929 = .ok (.iaload, 1) := by decide +kernel
theorem dL_law_2930 : decode cL_law 2930 = .ok (.aload_n 0, 1) := by decide +kernel
theorem dL_law_2931 : decode cL_law 2931 = .ok (.iload 4, 2) := by decide +kernel
theorem dL_law_2933 : decode cL_law 2933 = .ok (.iconst 3, 1) := by decide +kernel
theorem dL_law_2934 : decode cL_law 2934 = .ok (.iadd, 1) := by decide +kernel
theorem dL_law_2935 : decode cL_law 2935 = .ok (.iaload, 1) := by decide +kernel
theorem dL_law_2936 : decode cL_law 2936 = .ok (.aload_n 0, 1) := by decide +kernel
theorem dL_law_2937 : decode cL_law 2937 = .ok (.iload 4, 2) := by decide +kernel
theorem dL_law_2939 : decode cL_law 2939 = .ok (.iconst 4, 1) := by decide +kernel
theorem dL_law_2940 : decode cL_law 2940 = .ok (.iadd, 1) := by decide +kernel
theorem dL_law_2941 : decode cL_law 2941 = .ok (.iaload, 1) := by decide +kernel
theorem dL_law_2942 : decode cL_law 2942 = .ok (.aload_n 0, 1) := by decide +kernel
theorem dL_law_2943 : decode cL_law 2943 = .ok (.iload 4, 2) := by decide +kernel
theorem dL_law_2945 : decode cL_law 2945 = .ok (.iconst 5, 1) := by decide +kernel
theorem dL_law_2946 : decode cL_law 2946 = .ok (.iadd, 1) := by decide +kernel
theorem dL_law_2947 : decode cL_law 2947 = .ok (.iaload, 1) := by decide +kernel
theorem dL_law_2948 : decode cL_law 2948 = .ok (.invokevirtual 355, 3) := by decide +kernel
theorem dL_law_2951 : decode cL_law 2951 = .ok (.istore 6, 2) := by decide +kernel
theorem dL_law_2953 : decode cL_law 2953 = .ok (.aload_n 2, 1) := by decide +kernel
theorem dL_law_2954 : decode cL_law 2954 = .ok (.invokevirtual 175, 3) := by decide +kernel
theorem dL_law_2957 : decode cL_law 2957 = .ok (.iload 5, 2) := by decide +kernel
theorem dL_law_2959 : decode cL_law 2959 = .ok (.if_icmp .eq 5, 3) := by decide +kernel
theorem dL_law_2962 : decode cL_law 2962 = .ok (.iconst 0, 1) := by decide +kernel
theorem dL_law_2963 : decode cL_law 2963 = .ok (.ireturn, 1) := by decide +kernel
theorem dL_law_2964 : decode cL_law 2964 = .ok (.iload 5, 2) := by decide +kernel
theorem dL_law_2966 : decode cL_law 2966 = .ok (.ifCond .ne 15, 3) := by decide +kernel
theorem dL_law_2969 : decode cL_law 2969 = .ok (.aload_n 3, 1) := by decide +kernel
theorem dL_law_2970 : decode cL_law 2970 = .ok (.iconst 0, 1) := by decide +kernel
theorem dL_law_2971 : decode cL_law 2971 = .ok (.laload, 1) := by decide +kernel
theorem dL_law_2972 : decode cL_law 2972 = .ok (.iload 6, 2) := by decide +kernel
theorem dL_law_2974 : decode cL_law 2974 = .ok (.i2l, 1) := by decide +kernel
theorem dL_law_2975 : decode cL_law 2975 = .ok (.lcmp, 1) := by decide +kernel
theorem dL_law_2976 : decode cL_law 2976 = .ok (.ifCond .eq 5, 3) := by decide +kernel
theorem dL_law_2979 : decode cL_law 2979 = .ok (.iconst 0, 1) := by decide +kernel
theorem dL_law_2980 : decode cL_law 2980 = .ok (.ireturn, 1) := by decide +kernel
theorem dL_law_2981 : decode cL_law 2981 = .ok (.goto 477, 3) := by decide +kernel
theorem dL_law_2984 : decode cL_law 2984 = .ok (.aload_n 1, 1) := by decide +kernel
theorem dL_law_2985 : decode cL_law 2985 = .ok (.aload_n 0, 1) := by decide +kernel
theorem dL_law_2986 : decode cL_law 2986 = .ok (.iload 4, 2) := by decide +kernel
theorem dL_law_2988 : decode cL_law 2988 = .ok (.iconst 1, 1) := by decide +kernel
theorem dL_law_2989 : decode cL_law 2989 = .ok (.iadd, 1) := by decide +kernel
theorem dL_law_2990 : decode cL_law 2990 = .ok (.iaload, 1) := by decide +kernel
theorem dL_law_2991 : decode cL_law 2991 = .ok (.aload_n 3, 1) := by decide +kernel
theorem dL_law_2992 : decode cL_law 2992 = .ok (.invokestatic 356, 3) := by decide +kernel
theorem dL_law_2995 : decode cL_law 2995 = .ok (.istore 5, 2) := by decide +kernel
theorem dL_law_2997 : decode cL_law 2997 = .ok (.aload_n 2, 1) := by decide +kernel
theorem dL_law_2998 : decode cL_law 2998 = .ok (.aload_n 0, 1) := by decide +kernel
theorem dL_law_2999 : decode cL_law 2999 = .ok (.iload 4, 2) := by decide +kernel
theorem dL_law_3001 : decode cL_law 3001 = .ok (.iconst 1, 1) := by decide +kernel
theorem dL_law_3002 : decode cL_law 3002 = .ok (.iadd, 1) := by decide +kernel
theorem dL_law_3003 : decode cL_law 3003 = .ok (.iaload, 1) := by decide +kernel
theorem dL_law_3004 : decode cL_law 3004 = .ok (.invokevirtual 358, 3) := by decide +kernel
theorem dL_law_3007 : decode cL_law 3007 = .ok (.istore 6, 2) := by decide +kernel
theorem dL_law_3009 : decode cL_law 3009 = .ok (.aload_n 2, 1) := by decide +kernel
theorem dL_law_3010 : decode cL_law 3010 = .ok (.invokevirtual 175, 3) := by decide +kernel
theorem dL_law_3013 : decode cL_law 3013 = .ok (.iload 5, 2) := by decide +kernel
theorem dL_law_3015 : decode cL_law 3015 = .ok (.if_icmp .eq 5, 3) := by decide +kernel
theorem dL_law_3018 : decode cL_law 3018 = .ok (.iconst 0, 1) := by decide +kernel
theorem dL_law_3019 : decode cL_law 3019 = .ok (.ireturn, 1) := by decide +kernel
theorem dL_law_3020 : decode cL_law 3020 = .ok (.iload 5, 2) := by decide +kernel
theorem dL_law_3022 : decode cL_law 3022 = .ok (.ifCond .ne 15, 3) := by decide +kernel
theorem dL_law_3025 : decode cL_law 3025 = .ok (.aload_n 3, 1) := by decide +kernel
theorem dL_law_3026 : decode cL_law 3026 = .ok (.iconst 0, 1) := by decide +kernel
theorem dL_law_3027 : decode cL_law 3027 = .ok (.laload, 1) := by decide +kernel
theorem dL_law_3028 : decode cL_law 3028 = .ok (.iload 6, 2) := by decide +kernel
theorem dL_law_3030 : decode cL_law 3030 = .ok (.i2l, 1) := by decide +kernel
theorem dL_law_3031 : decode cL_law 3031 = .ok (.lcmp, 1) := by decide +kernel
theorem dL_law_3032 : decode cL_law 3032 = .ok (.ifCond .eq 5, 3) := by decide +kernel
theorem dL_law_3035 : decode cL_law 3035 = .ok (.iconst 0, 1) := by decide +kernel
theorem dL_law_3036 : decode cL_law 3036 = .ok (.ireturn, 1) := by decide +kernel
theorem dL_law_3037 : decode cL_law 3037 = .ok (.goto 421, 3) := by decide +kernel
theorem dL_law_3040 : decode cL_law 3040 = .ok (.aload_n 1, 1) := by decide +kernel
theorem dL_law_3041 : decode cL_law 3041 = .ok (.aload_n 0, 1) := by decide +kernel
theorem dL_law_3042 : decode cL_law 3042 = .ok (.iload 4, 2) := by decide +kernel
theorem dL_law_3044 : decode cL_law 3044 = .ok (.iconst 1, 1) := by decide +kernel
theorem dL_law_3045 : decode cL_law 3045 = .ok (.iadd, 1) := by decide +kernel
theorem dL_law_3046 : decode cL_law 3046 = .ok (.iaload, 1) := by decide +kernel
theorem dL_law_3047 : decode cL_law 3047 = .ok (.aload_n 0, 1) := by decide +kernel
theorem dL_law_3048 : decode cL_law 3048 = .ok (.iload 4, 2) := by decide +kernel
theorem dL_law_3050 : decode cL_law 3050 = .ok (.iconst 2, 1) := by decide +kernel
theorem dL_law_3051 : decode cL_law 3051 = .ok (.iadd, 1) := by decide +kernel
theorem dL_law_3052 : decode cL_law 3052 = .ok (.iaload, 1) := by decide +kernel
theorem dL_law_3053 : decode cL_law 3053 = .ok (.aload_n 3, 1) := by decide +kernel
theorem dL_law_3054 : decode cL_law 3054 = .ok (.invokestatic 359, 3) := by decide +kernel
theorem dL_law_3057 : decode cL_law 3057 = .ok (.istore 5, 2) := by decide +kernel
theorem dL_law_3059 : decode cL_law 3059 = .ok (.aload_n 2, 1) := by decide +kernel
theorem dL_law_3060 : decode cL_law 3060 = .ok (.aload_n 0, 1) := by decide +kernel
