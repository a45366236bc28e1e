/-! rows of the law -/
theorem dL_law_2752 : decode cL_law 2752 = .ok (.aload_n 1, 1) := by decide +kernel
theorem dL_law_2753 : decode cL_law 2753 = .ok (.aload 4, 2) := by decide +kernel
theorem dL_law_2755 : decode cL_law 2755 = .ok (.invokestatic 356, 3) := by decide +kernel
theorem dL_law_2758 : decode cL_law 2758 = .ok (.istore 6, 2) := by decide +kernel
theorem dL_law_2760 : decode cL_law 2760 = .ok (.aload_n 2, 1) := by decide +kernel
theorem dL_law_2761 : decode cL_law 2761 = .ok (.invokevirtual 358, 3) := by decide +kernel
theorem dL_law_2764 : decode cL_law 2764 = .ok (.fstore 7, 2) := by decide +kernel
theorem dL_law_2766 : decode cL_law 2766 = .ok (.aload_n 2, 1) := by decide +kernel
theorem dL_law_2767 : decode cL_law 2767 = .ok (.invokevirtual 184, 3) := by decide +kernel
theorem dL_law_2770 : decode cL_law 2770 = .ok (.iload 6, 2) := by decide +kernel
theorem dL_law_2772 : decode cL_law 2772 = .ok (.if_icmp .eq 5, 3) := by decide +kernel
theorem dL_law_2775 : decode cL_law 2775 = .ok (.iconst 0, 1) := by decide +kernel
theorem dL_law_2776 : decode cL_law 2776 = .ok (.ireturn, 1) := by decide +kernel
theorem dL_law_2777 : decode cL_law 2777 = .ok (.iload 6, 2) := by decide +kernel
theorem dL_law_2779 : decode cL_law 2779 = .ok (.ifCond .ne 36, 3) := by decide +kernel
theorem dL_law_2782 : decode cL_law 2782 = .ok (.aload 4, 2) := by decide +kernel
theorem dL_law_2784 : decode cL_law 2784 = .ok (.iconst 0, 1) := by decide +kernel
theorem dL_law_2785 : decode cL_law 2785 = .ok (.daload, 1) := by decide +kernel
theorem dL_law_2786 : decode cL_law 2786 = .ok (.fload 7, 2) := by decide +kernel
theorem dL_law_2788 : decode cL_law 2788 = .ok (.f2d, 1) := by decide +kernel
theorem dL_law_2789 : decode cL_law 2789 = .ok (.dcmp .l, 1) := by decide +kernel
theorem dL_law_2790 : decode cL_law 2790 = .ok (.ifCond .eq 25, 3) := by decide +kernel
theorem dL_law_2793 : decode cL_law 2793 = .ok (.aload 4, 2) := by decide +kernel
theorem dL_law_2795 : decode cL_law 2795 = .ok (.iconst 0, 1) := by decide +kernel
theorem dL_law_2796 : decode cL_law 2796 = .ok (.daload, 1) := by decide +kernel
theorem dL_law_2797 : decode cL_law 2797 = .ok (.aload 4, 2) := by decide +kernel
theorem dL_law_2799 : decode cL_law 2799 = .ok (.iconst 0, 1) := by decide +kernel
theorem dL_law_2800 : decode cL_law 2800 = .ok (.daload, 1) := by decide +kernel
theorem dL_law_2801 : decode cL_law 2801 = .ok (.dcmp .l, 1) := by decide +kernel
theorem dL_law_2802 : decode cL_law 2802 = .ok (.ifCond .eq 11, 3) := by decide +kernel
theorem dL_law_2805 : decode cL_law 2805 = .ok (.fload 7, 2) := by decide +kernel
theorem dL_law_2807 : decode cL_law 2807 = .ok (.fload 7, 2) := by decide +kernel
theorem dL_law_2809 : decode cL_law 2809 = .ok (.fcmp .l, 1) := by decide +kernel
theorem dL_law_2810 : decode cL_law 2810 = .ok (.ifCond .ne 5, 3) := by decide +kernel
theorem dL_law_2813 : decode cL_law 2813 = .ok (.iconst 0, 1) := by decide +kernel
theorem dL_law_2814 : decode cL_law 2814 = .ok (.ireturn, 1) := by decide +kernel
theorem dL_law_2815 : decode cL_law 2815 = .ok (.goto 432, 3) := by decide +kernel
theorem dL_law_2818 : decode cL_law 2818 = .ok (.aload_n 1, 1) := by decide +kernel
theorem dL_law_2819 : decode cL_law 2819 = .ok (.invokevirtual 359, 3) := by decide +kernel
theorem dL_law_2822 : decode cL_law 2822 = .ok (.aload_n 2, 1) := by decide +kernel
theorem dL_law_2823 : decode cL_law 2823 = .ok (.invokevirtual 363, 3) := by decide +kernel
theorem dL_law_2826 : decode cL_law 2826 = .ok (.if_icmp .eq 421, 3) := by decide +kernel
theorem dL_law_2829 : decode cL_law 2829 = .ok (.iconst 0, 1) := by decide +kernel
theorem dL_law_2830 : decode cL_law 2830 = .ok (.ireturn, 1) := by decide +kernel
theorem dL_law_2831 : decode cL_law 2831 = .ok (.aload_n 1, 1) := by decide +kernel
theorem dL_law_2832 : decode cL_law 2832 = .ok (.aload_n 0, 1) := by decide +kernel
theorem dL_law_2833 : decode cL_law 2833 = .ok (.iload 5, 2) := by decide +kernel
theorem dL_law_2835 : decode cL_law 2835 = .ok (.iconst 1, 1) := by decide +kernel
theorem dL_law_2836 : decode cL_law 2836 = .ok (.iadd, 1) := by decide +kernel
theorem dL_law_2837 : decode cL_law 2837 = .ok (.iaload, 1) := by decide +kernel
theorem dL_law_2838 : decode cL_law 2838 = .ok (.i2c, 1) := by decide +kernel
theorem dL_law_2839 : decode cL_law 2839 = .ok (.aload_n 3, 1) := by decide +kernel
theorem dL_law_2840 : decode cL_law 2840 = .ok (.invokestatic 364, 3) := by decide +kernel
theorem dL_law_2843 : decode cL_law 2843 = .ok (.istore 6, 2) := by decide +kernel
theorem dL_law_2845 : decode cL_law 2845 = .ok (.aload_n 2, 1) := by decide +kernel
theorem dL_law_2846 : decode cL_law 2846 = .ok (.aload_n 0, 1) := by decide +kernel
theorem dL_law_2847 : decode cL_law 2847 = .ok (.iload 5, 2) := by decide +kernel
theorem dL_law_2849 : decode cL_law 2849 = .ok (.iconst 1, 1) := by decide +kernel
theorem dL_law_2850 : decode cL_law 2850 = .ok (.iadd, 1) := by decide +kernel
theorem dL_law_2851 : decode cL_law 2851 = .ok (.iaload, 1) := by decide +kernel
theorem dL_law_2852 : decode cL_law 2852 = .ok (.i2c, 1) := by decide +kernel
theorem dL_law_2853 : decode cL_law 2853 = .ok (.invokevirtual 366, 3) := by decide +kernel
theorem dL_law_2856 : decode cL_law 2856 = .ok (.istore 7, 2) := by decide +kernel
theorem dL_law_2858 : decode cL_law 2858 = .ok (.aload_n 2, 1) := by decide +kernel
theorem dL_law_2859 : decode cL_law 2859 = .ok (.invokevirtual 184, 3) := by decide +kernel
theorem dL_law_2862 : decode cL_law 2862 = .ok (.iload 6, 2) := by decide +kernel
theorem dL_law_2864 : decode cL_law 2864 = .ok (.if_icmp .eq 5, 3) := by decide +kernel
theorem dL_law_2867 : decode cL_law 2867 = .ok (.iconst 0, 1) := by decide +kernel
theorem dL_law_2868 : decode cL_law 2868 = .ok (.ireturn, 1) := by decide +kernel
theorem dL_law_2869 : decode cL_law 2869 = .ok (.iload 6, 2) := by decide +kernel
theorem dL_law_2871 : decode cL_law 2871 = .ok (.ifCond .ne 15, 3) := by decide +kernel
theorem dL_law_2874 : decode cL_law 2874 = .ok (.aload_n 3, 1) := by decide +kernel
theorem dL_law_2875 : decode cL_law 2875 = .ok (.iconst 0, 1) := by decide +kernel
theorem dL_law_2876 : decode cL_law 2876 = .ok (.laload, 1) := by decide +kernel
theorem dL_law_2877 : decode cL_law 2877 = .ok (.iload 7, 2) := by decide +kernel
theorem dL_law_2879 : decode cL_law 2879 = .ok (.i2l, 1) := by decide +kernel
theorem dL_law_2880 : decode cL_law 2880 = .ok (.lcmp, 1) := by decide +kernel
theorem dL_law_2881 : decode cL_law 2881 = .ok (.ifCond .eq 5, 3) := by decide +kernel
theorem dL_law_2884 : decode cL_law 2884 = .ok (.iconst 0, 1) := by decide +kernel
theorem dL_law_2885 : decode cL_law 2885 = .ok (.ireturn, 1) := by decide +kernel
theorem dL_law_2886 : decode cL_law 2886 = .ok (.goto 361, 3) := by decide +kernel
theorem dL_law_2889 : decode cL_law 2889 = .ok (.aload_n 1, 1) := by decide +kernel
theorem dL_law_2890 : decode cL_law 2890 = .ok (.aload_n 3, 1) := by decide +kernel
theorem dL_law_2891 : decode cL_law 2891 = .ok (.invokestatic 367, 3) := by decide +kernel
theorem dL_law_2894 : decode cL_law 2894 = .ok (.istore 6, 2) := by decide +kernel
theorem dL_law_2896 : decode cL_law 2896 = .ok (.aload_n 2, 1) := by decide +kernel
theorem dL_law_2897 : decode cL_law 2897 = .ok (.invokevirtual 370, 3) := by decide +kernel
theorem dL_law_2900 : decode cL_law 2900 = .ok (.istore 7, 2) := by decide +kernel
theorem dL_law_2902 : decode cL_law 2902 = .ok (.aload_n 2, 1) := by decide +kernel
theorem dL_law_2903 : decode cL_law 2903 = .ok (.invokevirtual 184, 3) := by decide +kernel
theorem dL_law_2906 : decode cL_law 2906 = .ok (.iload 6, 2) := by decide +kernel
theorem dL_law_2908 : decode cL_law 2908 = .ok (.if_icmp .eq 5, 3) := by decide +kernel
theorem dL_law_2911 : decode cL_law 2911 = .ok (.iconst 0, 1) := by decide +kernel
theorem dL_law_2912 : decode cL_law 2912 = .ok (.ireturn, 1) := by decide +kernel
theorem dL_law_2913 : decode cL_law 2913 = .ok (.iload 6, 2) := by decide +kernel
theorem dL_law_2915 : decode cL_law 2915 = .ok (.ifCond .ne 15, 3) := by decide +kernel
theorem dL_law_2918 : decode cL_law 2918 = .ok (.aload_n 3, 1) := by decide +kernel
theorem dL_law_2919 : decode cL_law 2919 = .ok (.iconst 0, 1) := by decide +kernel
theorem dL_law_2920 : decode cL_law 2920 = .ok (.laload, 1) := by decide +kernel
theorem dL_law_2921 : decode cL_law 2921 = .ok (.iload 7, 2) := by decide +kernel
theorem dL_law_2923 : decode cL_law 2923 = .ok (.i2l, 1) := by decide +kernel
theorem dL_law_2924 : decode cL_law 2924 = .ok (.lcmp, 1) := by decide +kernel
theorem dL_law_2925 : decode cL_law 2925 = .ok (.ifCond .eq 5, 3) := by decide +kernel
theorem dL_law_2928 : decode cL_law 2928 = .ok (.iconst 0, 1) := by decide +kernel
theorem dL_law_2929 : decode cL_law 2929 = .ok (.ireturn, 1) := by decide +kernel
theorem dL_law_2930 : decode cL_law 2930 = .ok (.goto 317, 3) := by decide +kernel
theorem dL_law_2933 : decode cL_law 2933 = .ok (.aload_n 1, 1) := by decide +kernel
theorem dL_law_2934 : decode cL_law 2934 = .ok (.aload_n 3, 1) := by decide +kernel
theorem dL_law_2935 : decode cL_law 2935 = .ok (.invokestatic 371, 3) := by decide +kernel
theorem dL_law_2938 : decode cL_law 2938 = .ok (.istore 6, 2) := by decide +kernel
theorem dL_law_2940 : decode cL_law 2940 = .ok (.aload_n 2, 1) := by decide +kernel
theorem dL_law_2941 : decode cL_law 2941 = .ok (.invokevirtual 373, 3) := by decide +kernel
theorem dL_law_2944 : decode cL_law 2944 = .ok (.istore 7, 2) := by decide +kernel
theorem dL_law_2946 : decode cL_law 2946 = .ok (.aload_n 2, 1) := by decide +kernel
theorem dL_law_2947 : decode cL_law 2947 = .ok (.invokevirtual 184, 3) := by decide +kernel
theorem dL_law_2950 : decode cL_law 2950 = .ok (.iload 6, 2) := by decide +kernel
theorem dL_law_2952 : decode cL_law 2952 = .ok (.if_icmp .eq 5, 3) := by decide +kernel
theorem dL_law_2955 : decode cL_law 2955 = .ok (.iconst 0, 1) := by decide +kernel
theorem dL_law_2956 : decode cL_law 2956 = .ok (.ireturn, 1) := by decide +kernel
theorem dL_law_2957 : decode cL_law 2957 = .ok (.iload 6, 2) := by decide +kernel
theorem dL_law_2959 : decode cL_law 2959 = .ok (.ifCond .ne 15, 3) := by decide +kernel
theorem dL_law_2962 : decode cL_law 2962 = .ok (.aload_n 3, 1) := by decide +kernel
theorem dL_law_2963 : decode cL_law 2963 = .ok (.iconst 0, 1) := by decide +kernel
theorem dL_law_2964 : decode cL_law 2964 = .ok (.laload, 1) := by decide +kernel
theorem dL_law_2965 : decode cL_law 2965 = .ok (.iload 7, 2) := by decide +kernel
theorem dL_law_2967 : decode cL_law 2967 = .ok (.i2l, 1) := by decide +kernel
theorem dL_law_2968 : decode cL_law 2968 = .ok (.lcmp, 1) := by decide +kernel
theorem dL_law_2969 : decode cL_law 2969 = .ok (.ifCond .eq 5, 3) := by decide +kernel
theorem dL_law_2972 : decode cL_law 2972 = .ok (.iconst 0, 1) := by decide +kernel
theorem dL_law_2973 : decode cL_law 2973 = .ok (.ireturn, 1) := by decide +kernel
theorem dL_law_2974 : decode cL_law 2974 = .ok (.goto 273, 3) := by decide +kernel
theorem dL_law_2977 : decode cL_law 2977 = .ok (.aload_n 1, 1) := by decide +kernel
theorem dL_law_2978 : decode cL_law 2978 = .ok (.aload_n 3, 1) := by decide +kernel
theorem dL_law_2979 : decode cL_law 2979 = .ok (.invokestatic 374, 3) := by decide +kernel
theorem dL_law_2982 : decode cL_law 2982 = .ok (.istore 6, 2) := by decide +kernel
theorem dL_law_2984 : decode cL_law 2984 = .ok (.aload_n 2, 1) := by decide +kernel
theorem dL_law_2985 : decode cL_law 2985 = .ok (.invokevirtual 376, 3) := by decide +kernel
theorem dL_law_2988 : decode cL_law 2988 = .ok (.istore 7, 2) := by decide +kernel
theorem dL_law_2990 : decode cL_law 2990 = .ok (.aload_n 2, 1) := by decide +kernel
theorem dL_law_2991 : decode cL_law 2991 = .ok (.invokevirtual 184, 3) := by decide +kernel
theorem dL_law_2994 : decode cL_law 2994 = .ok (.iload 6, 2) := by decide +kernel
theorem dL_law_2996 : decode cL_law 2996 = .ok (.if_icmp .eq 5, 3) := by decide +kernel
theorem dL_law_2999 : decode cL_law 2999 = .ok (.iconst 0, 1) := by decide +kernel
theorem dL_law_3000 : decode cL_law 3000 = .ok (.ireturn, 1) := by decide +kernel
theorem dL_law_3001 : decode cL_law 3001 = .ok (.iload 6, 2) := by decide +kernel
theorem dL_law_3003 : decode cL_law 3003 = .ok (.ifCond .ne 15, 3) := by decide +kernel
theorem dL_law_3006 : decode cL_law 3006 = .ok (.aload_n 3, 1) := by decide +kernel
theorem dL_law_3007 : decode cL_law 3007 = .ok (.iconst 0, 1) := by decide +kernel
theorem dL_law_3008 : decode cL_law 3008 = .ok (.laload, 1) := by decide +kernel
theorem dL_law_3009 : decode cL_law 3009 = .ok (.iload 7, 2) := by decide +kernel
theorem dL_law_3011 : decode cL_law 3011 = .ok (.i2l, 1) := by decide +kernel
theorem dL_law_3012 : decode cL_law 3012 = .ok (.lcmp, 1) := by decide +kernel
theorem dL_law_3013 : decode cL_law 3013 = .ok (.ifCond .eq 5, 3) := by decide +kernel
theorem dL_law_3016 : decode cL_law 3016 = .ok (.iconst 0, 1) := by decide +kernel
theorem dL_law_3017 : decode cL_law 3017 = .ok (.ireturn, 1) := by decide +kernel
theorem dL_law_3018 : decode cL_law 3018 = .ok (.goto 229, 3) := by decide +kernel
theorem dL_law_3021 : decode cL_law 3021 = .ok (.aload_n 1, 1) := by decide +kernel
theorem dL_law_3022 : decode cL_law 3022 = .ok (.aload_n 0, 1) := by decide +kernel
theorem dL_law_3023 : decode cL_law 3023 = .ok (.iload 5, 2) := by decide +kernel
theorem dL_law_3025 : decode cL_law 3025 = .ok (.iconst 1, 1) := by decide +kernel
theorem dL_law_3026 : decode cL_law 3026 = .ok (.iadd, 1) := by decide +kernel
theorem dL_law_3027 : decode cL_law 3027 = .ok (.iaload, 1) := by decide +kernel
theorem dL_law_3028 : decode cL_law 3028 = .ok (.aload_n 3, 1) := by decide +kernel
theorem dL_law_3029 : decode cL_law 3029 = .ok (.invokestatic 377, 3) := by decide +kernel
theorem dL_law_3032 : decode cL_law 3032 = .ok (.istore 6, 2) := by decide +kernel
theorem dL_law_3034 : decode cL_law 3034 = .ok (.aload_n 2, 1) := by decide +kernel
theorem dL_law_3035 : decode cL_law 3035 = .ok (.aload_n 0, 1) := by decide +kernel
theorem dL_law_3036 : decode cL_law 3036 = .ok (.iload 5, 2) := by decide +kernel
theorem dL_law_3038 : decode cL_law 3038 = .ok (.iconst 1, 1) := by decide +kernel
theorem dL_law_3039 : decode cL_law 3039 = .ok (.iadd, 1) := by decide +kernel
theorem dL_law_3040 : decode cL_law 3040 = .ok (.iaload, 1) := by decide +kernel
theorem dL_law_3041 : decode cL_law 3041 = .ok (.invokevirtual 379, 3) := by decide +kernel
theorem dL_law_3044 : decode cL_law 3044 = .ok (.istore 7, 2) := by decide +kernel
theorem dL_law_3046 : decode cL_law 3046 = .ok (.aload_n 2, 1) := by decide +kernel
theorem dL_law_3047 : decode cL_law 3047 = .ok (.invokevirtual 184, 3) := by decide +kernel
theorem dL_law_3050 : decode cL_law 3050 = .ok (.iload 6, 2) := by decide +kernel
theorem dL_law_3052 : decode cL_law 3052 = .ok (.if_icmp .eq 5, 3) := by decide +kernel
theorem dL_law_3055 : decode cL_law 3055 = .ok (.iconst 0, 1) := by decide +kernel
theorem dL_law_3056 : decode cL_law 3056 = .ok (.ireturn, 1) := by decide +kernel
theorem dL_law_3057 : decode cL_law 3057 = .ok (.iload 6, 2) := by decide +kernel
theorem dL_law_3059 : decode cL_law 3059 = .ok (.ifCond .ne 15, 3) := by decide +kernel
theorem dL_law_3062 : decode cL_law 3062 = .ok (.aload_n 3, 1) := by decide +kernel
theorem dL_law_3063 : decode cL_law 3063 = .ok (.iconst 0, 1) := by decide +kernel
theorem dL_law_3064 : decode cL_law 3064 = .ok (.laload, 1) := by decide +kernel
theorem dL_law_3065 : decode cL_law 3065 = .ok (.iload 7, 2) := by decide +kernel
theorem dL_law_3067 : decode cL_law 3067 = .ok (.i2l, 1) := by decide +kernel
theorem dL_law_3068 : decode cL_law 3068 = .ok (.lcmp, 1) := by decide +kernel
theorem dL_law_3069 : decode cL_law 3069 = .ok (.ifCond .eq 5, 3) := by decide +kernel
theorem dL_law_3072 : decode cL_law 3072 = .ok (.iconst 0, 1) := by decide +kernel
theorem dL_law_3073 : decode cL_law 3073 = .ok (.ireturn, 1) := by decide +kernel
theorem dL_law_3074 : decode cL_law 3074 = .ok (.goto 173, 3) := by decide +kernel
theorem dL_law_3077 : decode cL_law 3077 = .ok (.aload_n 1, 1) := by decide +kernel
theorem dL_law_3078 : decode cL_law 3078 = .ok (.aload_n 0, 1) := by decide +kernel
theorem dL_law_3079 : decode cL_law 3079 = .ok (.iload 5, 2) := by decide +kernel
theorem dL_law_3081 : decode cL_law 3081 = .ok (.iconst 1, 1) := by decide +kernel
theorem dL_law_3082 : decode cL_law 3082 = .ok (.iadd, 1) := by decide +kernel
theorem dL_law_3083 : decode cL_law 3083 = .ok (.iaload, 1) := by decide +kernel
theorem dL_law_3084 : decode cL_law 3084 = .ok (.aload_n 3, 1) := by decide +kernel
theorem dL_law_3085 : decode cL_law 3085 = .ok (.invokestatic 380, 3) := by decide +kernel
theorem dL_law_3088 : decode cL_law 3088 = .ok (.istore 6, 2) := by decide +kernel
theorem dL_law_3090 : decode cL_law 3090 = .ok (.aload_n 2, 1) := by decide +kernel
theorem dL_law_3091 : decode cL_law 3091 = .ok (.aload_n 0, 1) := by decide +kernel
theorem dL_law_3092 : decode cL_law 3092 = .ok (.iload 5, 2) := by decide +kernel
theorem dL_law_3094 : decode cL_law 3094 = .ok (.iconst 1, 1) := by decide +kernel
theorem dL_law_3095 : decode cL_law 3095 = .ok (.iadd, 1) := by decide +kernel
theorem dL_law_3096 : decode cL_law 3096 = .ok (.iaload, 1) := by decide +kernel
theorem dL_law_3097 : decode cL_law 3097 = .ok (.invokevirtual 382, 3) := by decide +kernel
theorem dL_law_3100 : decode cL_law 3100 = .ok (.istore 7, 2) := by decide +kernel
theorem dL_law_3102 : decode cL_law 3102 = .ok (.aload_n 2, 1) := by decide +kernel
theorem dL_law_3103 : decode cL_law 3103 = .ok (.invokevirtual 184, 3) := by decide +kernel
theorem dL_law_3106 : decode cL_law 3106 = .ok (.iload 6, 2) := by decide +kernel
theorem dL_law_3108 : decode cL_law 3108 = .ok (.if_icmp .eq 5, 3) := by decide +kernel
theorem dL_law_3111 : decode cL_law 3111 = .ok (.iconst 0, 1) := by decide +kernel
theorem dL_law_3112 : decode cL_law 3112 = .ok (.ireturn, 1) := by decide +kernel
theorem dL_law_3113 : decode cL_law 3113 = .ok (.iload 6, 2) := by decide +kernel
theorem dL_law_3115 : decode cL_law 3115 = .ok (.ifCond .ne 15, 3) := by decide +kernel
theorem dL_law_3118 : decode cL_law 3118 = .ok (.aload_n 3, 1) := by decide +kernel
theorem dL_law_3119 : decode cL_law 3119 = .ok (.iconst 0, 1) := by decide +kernel
theorem dL_law_3120 : decode cL_law 3120 = .ok (.laload, 1) := by decide +kernel
theorem dL_law_3121 : decode cL_law 3121 = .ok (.iload 7, 2) := by decide +kernel
theorem dL_law_3123 : decode cL_law 3123 = .ok (.i2l, 1) := by decide +kernel
theorem dL_law_3124 : decode cL_law 3124 = .ok (.lcmp, 1) := by decide +kernel
theorem dL_law_3125 : decode cL_law 3125 = .ok (.ifCond .eq 5, 3) := by decide +kernel
theorem dL_law_3128 : decode cL_law 3128 = .ok (.iconst 0, 1) := by decide +kernel
theorem dL_law_3129 : decode cL_law 3129 = .ok (.ireturn, 1) := by decide +kernel
theorem dL_law_3130 : decode cL_law 3130 = .ok (.goto 117, 3) := by decide +kernel
theorem dL_law_3133 : decode cL_law 3133 = .ok (.aload_n 1, 1) := by decide +kernel
theorem dL_law_3134 : decode cL_law 3134 = .ok (.invokevirtual 383, 3) := by decide +kernel
theorem dL_law_3137 : decode cL_law 3137 = .ok (.aload_n 2, 1) := by decide +kernel
theorem dL_law_3138 : decode cL_law 3138 = .ok (.invokevirtual 386, 3) := by decide +kernel
theorem dL_law_3141 : decode cL_law 3141 = .ok (.if_icmp .eq 106, 3) := by decide +kernel
theorem dL_law_3144 : decode cL_law 3144 = .ok (.iconst 0, 1) := by decide +kernel
theorem dL_law_3145 : decode cL_law 3145 = .ok (.ireturn, 1) := by decide +kernel
theorem dL_law_3146 : decode cL_law 3146 = .ok (.aload_n 1, 1) := by decide +kernel
theorem dL_law_3147 : decode cL_law 3147 = .ok (.aload_n 3, 1) := by decide +kernel
theorem dL_law_3148 : decode cL_law 3148 = .ok (.invokestatic 387, 3) := by decide +kernel
theorem dL_law_3151 : decode cL_law 3151 = .ok (.istore 6, 2) := by decide +kernel
theorem dL_law_3153 : decode cL_law 3153 = .ok (.aload_n 2, 1) := by decide +kernel
theorem dL_law_3154 : decode cL_law 3154 = .ok (.invokevirtual 389, 3) := by decide +kernel
theorem dL_law_3157 : decode cL_law 3157 = .ok (.istore 7, 2) := by decide +kernel
theorem dL_law_3159 : decode cL_law 3159 = .ok (.aload_n 2, 1) := by decide +kernel
theorem dL_law_3160 : decode cL_law 3160 = .ok (.invokevirtual 184, 3) := by decide +kernel
theorem dL_law_3163 : decode cL_law 3163 = .ok (.iload 6, 2) := by decide +kernel
theorem dL_law_3165 : decode cL_law 3165 = .ok (.if_icmp .eq 5, 3) := by decide +kernel
theorem dL_law_3168 : decode cL_law 3168 = .ok (.iconst 0, 1) := by decide +kernel
theorem dL_law_3169 : decode cL_law 3169 = .ok (.ireturn, 1) := by decide +kernel
theorem dL_law_3170 : decode cL_law 3170 = .ok (.iload 6, 2) := by decide +kernel
theorem dL_law_3172 : decode cL_law 3172 = .ok (.ifCond .ne 15, 3) := by decide +kernel
theorem dL_law_3175 : decode cL_law 3175 = .ok (.aload_n 3, 1) := by decide +kernel
theorem dL_law_3176 : decode cL_law 3176 = .ok (.iconst 0, 1) := by decide +kernel
theorem dL_law_3177 : decode cL_law 3177 = .ok (.laload, 1) := by decide +kernel
theorem dL_law_3178 : decode cL_law 3178 = .ok (.iload 7, 2) := by decide +kernel
theorem dL_law_3180 : decode cL_law 3180 = .ok (.i2l, 1) := by decide +kernel
theorem dL_law_3181 : decode cL_law 3181 = .ok (.lcmp, 1) := by decide +kernel
theorem dL_law_3182 : decode cL_law 3182 = .ok (.ifCond .eq 5, 3) := by decide +kernel
theorem dL_law_3185 : decode cL_law 3185 = .ok (.iconst 0, 1) := by decide +kernel
theorem dL_law_3186 : decode cL_law 3186 = .ok (.ireturn, 1) := by decide +kernel
theorem dL_law_3187 : decode cL_law 3187 = .ok (.goto 60, 3) := by decide +kernel
theorem dL_law_3190 : decode cL_law 3190 = .ok (.aload_n 1, 1) := by decide +kernel
theorem dL_law_3191 : decode cL_law 3191 = .ok (.invokevirtual 390, 3) := by decide +kernel
theorem dL_law_3194 : decode cL_law 3194 = .ok (.aload_n 2, 1) := by decide +kernel
theorem dL_law_3195 : decode cL_law 3195 = .ok (.invokevirtual 393, 3) := by decide +kernel
theorem dL_law_3198 : decode cL_law 3198 = .ok (.if_icmp .eq 49, 3) := by decide +kernel
theorem dL_law_3201 : decode cL_law 3201 = .ok (.iconst 0, 1) := by decide +kernel
theorem dL_law_3202 : decode cL_law 3202 = .ok (.ireturn, 1) := by decide +kernel
theorem dL_law_3203 : decode cL_law 3203 = .ok (.aload_n 1, 1) := by decide +kernel
theorem dL_law_3204 : decode cL_law 3204 = .ok (.aload_n 3, 1) := by decide +kernel
theorem dL_law_3205 : decode cL_law 3205 = .ok (.invokestatic 394, 3) := by decide +kernel
theorem dL_law_3208 : decode cL_law 3208 = .ok (.istore 6, 2) := by decide +kernel
theorem dL_law_3210 : decode cL_law 3210 = .ok (.aload_n 2, 1) := by decide +kernel
theorem dL_law_3211 : decode cL_law 3211 = .ok (.invokevirtual 396, 3) := by decide +kernel
theorem dL_law_3214 : decode cL_law 3214 = .ok (.istore 7, 2) := by decide +kernel
theorem dL_law_3216 : decode cL_law 3216 = .ok (.aload_n 2, 1) := by decide +kernel
theorem dL_law_3217 : decode cL_law 3217 = .ok (.invokevirtual 184, 3) := by decide +kernel
theorem dL_law_3220 : decode cL_law 3220 = .ok (.iload 6, 2) := by decide +kernel
theorem dL_law_3222 : decode cL_law 3222 = .ok (.if_icmp .eq 5, 3) := by decide +kernel
theorem dL_law_3225 : decode cL_law 3225 = .ok (.iconst 0, 1) := by decide +kernel
theorem dL_law_3226 : decode cL_law 3226 = .ok (.ireturn, 1) := by decide +kernel
theorem dL_law_3227 : decode cL_law 3227 = .ok (.iload 6, 2) := by decide +kernel
theorem dL_law_3229 : decode cL_law 3229 = .ok (.ifCond .ne 15, 3) := by decide +kernel
theorem dL_law_3232 : decode cL_law 3232 = .ok (.aload_n 3, 1) := by decide +kernel
theorem dL_law_3233 : decode cL_law 3233 = .ok (.iconst 0, 1) := by decide +kernel
theorem dL_law_3234 : decode cL_law 3234 = .ok (.laload, 1) := by decide +kernel
theorem dL_law_3235 : decode cL_law 3235 = .ok (.iload 7, 2) := by decide +kernel
theorem dL_law_3237 : decode cL_law 3237 = .ok (.i2l, 1) := by decide +kernel
theorem dL_law_3238 : decode cL_law 3238 = .ok (.lcmp, 1) := by decide +kernel
theorem dL_law_3239 : decode cL_law 3239 = .ok (.ifCond .eq 5, 3) := by decide +kernel
theorem dL_law_3242 : decode cL_law 3242 = .ok (.iconst 0, 1) := by decide +kernel
theorem dL_law_3243 : decode cL_law 3243 = .ok (.ireturn, 1) := by decide +kernel
theorem dL_law_3244 : decode cL_law 3244 = .ok (.goto 3, 3) := by decide +kernel
theorem dL_law_3247 : decode cL_law 3247 = .ok (.iinc 5 6, 3) := by decide +kernel
theorem dL_law_3250 : decode cL_law 3250 = .ok (.goto (-3222), 3) := by decide +kernel
theorem dL_law_3253 : decode cL_law 3253 = .ok (.iconst 1, 1) := by decide +kernel
theorem dL_law_3254 : decode cL_law 3254 = .ok (.ireturn, 1) := by decide +kernel
