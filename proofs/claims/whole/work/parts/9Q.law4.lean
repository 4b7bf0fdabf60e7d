/-! Rows of the law, 4. -/
theorem dL_law_2780 : decode cL_law 2780 = .ok (.ifCond .ne 15, 3) := by decide +kernel
theorem dL_law_2783 : decode cL_law 2783 = .ok (.aload_n 3, 1) := by decide +kernel
theorem dL_law_2784 : decode cL_law 2784 = .ok (.iconst 0, 1) := by decide +kernel
theorem dL_law_2785 : decode cL_law 2785 = .ok (.laload, 1) := by decide +kernel
theorem dL_law_2786 : decode cL_law 2786 = .ok (.iload 7, 2) := by decide +kernel
theorem dL_law_2788 : decode cL_law 2788 = .ok (.i2l, 1) := by decide +kernel
theorem dL_law_2789 : decode cL_law 2789 = .ok (.lcmp, 1) := by decide +kernel
theorem dL_law_2790 : decode cL_law 2790 = .ok (.ifCond .eq 5, 3) := by decide +kernel
theorem dL_law_2793 : decode cL_law 2793 = .ok (.iconst 0, 1) := by decide +kernel
theorem dL_law_2794 : decode cL_law 2794 = .ok (.ireturn, 1) := by decide +kernel
theorem dL_law_2795 : decode cL_law 2795 = .ok (.goto 832, 3) := by decide +kernel
theorem dL_law_2798 : decode cL_law 2798 = .ok (.aload_n 1, 1) := by decide +kernel
theorem dL_law_2799 : decode cL_law 2799 = .ok (.aload_n 0, 1) := by decide +kernel
theorem dL_law_2800 : decode cL_law 2800 = .ok (.iload 5, 2) := by decide +kernel
theorem dL_law_2802 : decode cL_law 2802 = .ok (.iconst 1, 1) := by decide +kernel
theorem dL_law_2803 : decode cL_law 2803 = .ok (.iadd, 1) := by decide +kernel
theorem dL_law_2804 : decode cL_law 2804 = .ok (.iaload, 1) := by decide +kernel
theorem dL_law_2805 : decode cL_law 2805 = .ok (.aload_n 3, 1) := by decide +kernel
theorem dL_law_2806 : decode cL_law 2806 = .ok (.invokestatic 301, 3) := by decide +kernel
theorem dL_law_2809 : decode cL_law 2809 = .ok (.istore 6, 2) := by decide +kernel
theorem dL_law_2811 : decode cL_law 2811 = .ok (.aload_n 2, 1) := by decide +kernel
theorem dL_law_2812 : decode cL_law 2812 = .ok (.aload_n 0, 1) := by decide +kernel
theorem dL_law_2813 : decode cL_law 2813 = .ok (.iload 5, 2) := by decide +kernel
theorem dL_law_2815 : decode cL_law 2815 = .ok (.iconst 1, 1) := by decide +kernel
theorem dL_law_2816 : decode cL_law 2816 = .ok (.iadd, 1) := by decide +kernel
theorem dL_law_2817 : decode cL_law 2817 = .ok (.iaload, 1) := by decide +kernel
theorem dL_law_2818 : decode cL_law 2818 = .ok (.invokevirtual 303, 3) := by decide +kernel
theorem dL_law_2821 : decode cL_law 2821 = .ok (.istore 7, 2) := by decide +kernel
theorem dL_law_2823 : decode cL_law 2823 = .ok (.aload_n 2, 1) := by decide +kernel
theorem dL_law_2824 : decode cL_law 2824 = .ok (.invokevirtual 179, 3) := by decide +kernel
theorem dL_law_2827 : decode cL_law 2827 = .ok (.iload 6, 2) := by decide +kernel
theorem dL_law_2829 : decode cL_law 2829 = .ok (.if_icmp .eq 5, 3) := by decide +kernel
theorem dL_law_2832 : decode cL_law 2832 = .ok (.iconst 0, 1) := by decide +kernel
theorem dL_law_2833 : decode cL_law 2833 = .ok (.ireturn, 1) := by decide +kernel
theorem dL_law_2834 : decode cL_law 2834 = .ok (.iload 6, 2) := by decide +kernel
theorem dL_law_2836 : decode cL_law 2836 = .ok (.ifCond .ne 15, 3) := by decide +kernel
theorem dL_law_2839 : decode cL_law 2839 = .ok (.aload_n 3, 1) := by decide +kernel
theorem dL_law_2840 : decode cL_law 2840 = .ok (.iconst 0, 1) := by decide +kernel
theorem dL_law_2841 : decode cL_law 2841 = .ok (.laload, 1) := by decide +kernel
theorem dL_law_2842 : decode cL_law 2842 = .ok (.iload 7, 2) := by decide +kernel
theorem dL_law_2844 : decode cL_law 2844 = .ok (.i2l, 1) := by decide +kernel
theorem dL_law_2845 : decode cL_law 2845 = .ok (.lcmp, 1) := by decide +kernel
theorem dL_law_2846 : decode cL_law 2846 = .ok (.ifCond .eq 5, 3) := by decide +kernel
theorem dL_law_2849 : decode cL_law 2849 = .ok (.iconst 0, 1) := by decide +kernel
theorem dL_law_2850 : decode cL_law 2850 = .ok (.ireturn, 1) := by decide +kernel
theorem dL_law_2851 : decode cL_law 2851 = .ok (.goto 776, 3) := by decide +kernel
theorem dL_law_2854 : decode cL_law 2854 = .ok (.aload_n 1, 1) := by decide +kernel
theorem dL_law_2855 : decode cL_law 2855 = .ok (.aload_n 0, 1) := by decide +kernel
theorem dL_law_2856 : decode cL_law 2856 = .ok (.iload 5, 2) := by decide +kernel
theorem dL_law_2858 : decode cL_law 2858 = .ok (.iconst 1, 1) := by decide +kernel
theorem dL_law_2859 : decode cL_law 2859 = .ok (.iadd, 1) := by decide +kernel
theorem dL_law_2860 : decode cL_law 2860 = .ok (.iaload, 1) := by decide +kernel
theorem dL_law_2861 : decode cL_law 2861 = .ok (.aload_n 3, 1) := by decide +kernel
theorem dL_law_2862 : decode cL_law 2862 = .ok (.invokestatic 304, 3) := by decide +kernel
theorem dL_law_2865 : decode cL_law 2865 = .ok (.istore 6, 2) := by decide +kernel
theorem dL_law_2867 : decode cL_law 2867 = .ok (.aload_n 2, 1) := by decide +kernel
theorem dL_law_2868 : decode cL_law 2868 = .ok (.aload_n 0, 1) := by decide +kernel
theorem dL_law_2869 : decode cL_law 2869 = .ok (.iload 5, 2) := by decide +kernel
theorem dL_law_2871 : decode cL_law 2871 = .ok (.iconst 1, 1) := by decide +kernel
theorem dL_law_2872 : decode cL_law 2872 = .ok (.iadd, 1) := by decide +kernel
theorem dL_law_2873 : decode cL_law 2873 = .ok (.iaload, 1) := by decide +kernel
theorem dL_law_2874 : decode cL_law 2874 = .ok (.invokevirtual 306, 3) := by decide +kernel
theorem dL_law_2877 : decode cL_law 2877 = .ok (.istore 7, 2) := by decide +kernel
theorem dL_law_2879 : decode cL_law 2879 = .ok (.aload_n 2, 1) := by decide +kernel
theorem dL_law_2880 : decode cL_law 2880 = .ok (.invokevirtual 179, 3) := by decide +kernel
theorem dL_law_2883 : decode cL_law 2883 = .ok (.iload 6, 2) := by decide +kernel
theorem dL_law_2885 : decode cL_law 2885 = .ok (.if_icmp .eq 5, 3) := by decide +kernel
theorem dL_law_2888 : decode cL_law 2888 = .ok (.iconst 0, 1) := by decide +kernel
theorem dL_law_2889 : decode cL_law 2889 = .ok (.ireturn, 1) := by decide +kernel
theorem dL_law_2890 : decode cL_law 2890 = .ok (.iload 6, 2) := by decide +kernel
theorem dL_law_2892 : decode cL_law 2892 = .ok (.ifCond .ne 15, 3) := by decide +kernel
theorem dL_law_2895 : decode cL_law 2895 = .ok (.aload_n 3, 1) := by decide +kernel
theorem dL_law_2896 : decode cL_law 2896 = .ok (.iconst 0, 1) := by decide +kernel
theorem dL_law_2897 : decode cL_law 2897 = .ok (.laload, 1) := by decide +kernel
theorem dL_law_2898 : decode cL_law 2898 = .ok (.iload 7, 2) := by decide +kernel
theorem dL_law_2900 : decode cL_law 2900 = .ok (.i2l, 1) := by decide +kernel
theorem dL_law_2901 : decode cL_law 2901 = .ok (.lcmp, 1) := by decide +kernel
theorem dL_law_2902 : decode cL_law 2902 = .ok (.ifCond .eq 5, 3) := by decide +kernel
theorem dL_law_2905 : decode cL_law 2905 = .ok (.iconst 0, 1) := by decide +kernel
theorem dL_law_2906 : decode cL_law 2906 = .ok (.ireturn, 1) := by decide +kernel
theorem dL_law_2907 : decode cL_law 2907 = .ok (.goto 720, 3) := by decide +kernel
theorem dL_law_2910 : decode cL_law 2910 = .ok (.aload_n 1, 1) := by decide +kernel
theorem dL_law_2911 : decode cL_law 2911 = .ok (.aload_n 0, 1) := by decide +kernel
theorem dL_law_2912 : decode cL_law 2912 = .ok (.iload 5, 2) := by decide +kernel
theorem dL_law_2914 : decode cL_law 2914 = .ok (.iconst 1, 1) := by decide +kernel
theorem dL_law_2915 : decode cL_law 2915 = .ok (.iadd, 1) := by decide +kernel
theorem dL_law_2916 : decode cL_law 2916 = .ok (.iaload, 1) := by decide +kernel
theorem dL_law_2917 : decode cL_law 2917 = .ok (.aload_n 0, 1) := by decide +kernel
theorem dL_law_2918 : decode cL_law 2918 = .ok (.iload 5, 2) := by decide +kernel
theorem dL_law_2920 : decode cL_law 2920 = .ok (.iconst 2, 1) := by decide +kernel
theorem dL_law_2921 : decode cL_law 2921 = .ok (.iadd, 1) := by decide +kernel
theorem dL_law_2922 : decode cL_law 2922 = .ok (.iaload, 1) := by decide +kernel
theorem dL_law_2923 : decode cL_law 2923 = .ok (.aload_n 0, 1) := by decide +kernel
theorem dL_law_2924 : decode cL_law 2924 = .ok (.iload 5, 2) := by decide +kernel
theorem dL_law_2926 : decode cL_law 2926 = .ok (.iconst 3, 1) := by decide +kernel
theorem dL_law_2927 : decode cL_law 2927 = .ok (.iadd, 1) := by decide +kernel
theorem dL_law_2928 : decode cL_law 2928 = .ok (.iaload, 1) := by decide +kernel
theorem dL_law_2929 : decode cL_law 2929 = .ok (.aload_n 0, 1) := by decide +kernel
theorem dL_law_2930 : decode cL_law 2930 = .ok (.iload 5, 2) := by decide +kernel
theorem dL_law_2932 : decode cL_law 2932 = .ok (.iconst 4, 1) := by decide +kernel
theorem dL_law_2933 : decode cL_law 2933 = .ok (.iadd, 1) := by decide +kernel
theorem dL_law_2934 : decode cL_law 2934 = .ok (.iaload, 1) := by decide +kernel
theorem dL_law_2935 : decode cL_law 2935 = .ok (.aload_n 3, 1) := by decide +kernel
theorem dL_law_2936 : decode cL_law 2936 = .ok (.invokestatic 307, 3) := by decide +kernel
theorem dL_law_2939 : decode cL_law 2939 = .ok (.istore 6, 2) := by decide +kernel
theorem dL_law_2941 : decode cL_law 2941 = .ok (.aload_n 2, 1) := by decide +kernel
theorem dL_law_2942 : decode cL_law 2942 = .ok (.aload_n 0, 1) := by decide +kernel
theorem dL_law_2943 : decode cL_law 2943 = .ok (.iload 5, 2) := by decide +kernel
theorem dL_law_2945 : decode cL_law 2945 = .ok (.iconst 1, 1) := by decide +kernel
theorem dL_law_2946 : decode cL_law 2946 = .ok (.iadd, 1) := by decide +kernel
theorem dL_law_2947 : decode cL_law 2947 = .ok (.iaload, 1) := by decide +kernel
theorem dL_law_2948 : decode cL_law 2948 = .ok (.aload_n 0, 1) := by decide +kernel
theorem dL_law_2949 : decode cL_law 2949 = .ok (.iload 5, 2) := by decide +kernel
theorem dL_law_2951 : decode cL_law 2951 = .ok (.iconst 2, 1) := by decide +kernel
theorem dL_law_2952 : decode cL_law 2952 = .ok (.iadd, 1) := by decide +kernel
theorem dL_law_2953 : decode cL_law 2953 = .ok (.iaload, 1) := by decide +kernel
theorem dL_law_2954 : decode cL_law 2954 = .ok (.aload_n 0, 1) := by decide +kernel
theorem dL_law_2955 : decode cL_law 2955 = .ok (.iload 5, 2) := by decide +kernel
theorem dL_law_2957 : decode cL_law 2957 = .ok (.iconst 3, 1) := by decide +kernel
theorem dL_law_2958 : decode cL_law 2958 = .ok (.iadd, 1) := by decide +kernel
theorem dL_law_2959 : decode cL_law 2959 = .ok (.iaload, 1) := by decide +kernel
theorem dL_law_2960 : decode cL_law 2960 = .ok (.aload_n 0, 1) := by decide +kernel
theorem dL_law_2961 : decode cL_law 2961 = .ok (.iload 5, 2) := by decide +kernel
theorem dL_law_2963 : decode cL_law 2963 = .ok (.iconst 4, 1) := by decide +kernel
theorem dL_law_2964 : decode cL_law 2964 = .ok (.iadd, 1) := by decide +kernel
theorem dL_law_2965 : decode cL_law 2965 = .ok (.iaload, 1) := by decide +kernel
theorem dL_law_2966 : decode cL_law 2966 = .ok (.invokevirtual 309, 3) := by decide +kernel
theorem dL_law_2969 : decode cL_law 2969 = .ok (.istore 7, 2) := by decide +kernel
theorem dL_law_2971 : decode cL_law 2971 = .ok (.aload_n 2, 1) := by decide +kernel
theorem dL_law_2972 : decode cL_law 2972 = .ok (.invokevirtual 179, 3) := by decide +kernel
theorem dL_law_2975 : decode cL_law 2975 = .ok (.iload 6, 2) := by decide +kernel
theorem dL_law_2977 : decode cL_law 2977 = .ok (.if_icmp .eq 5, 3) := by decide +kernel
theorem dL_law_2980 : decode cL_law 2980 = .ok (.iconst 0, 1) := by decide +kernel
theorem dL_law_2981 : decode cL_law 2981 = .ok (.ireturn, 1) := by decide +kernel
theorem dL_law_2982 : decode cL_law 2982 = .ok (.iload 6, 2) := by decide +kernel
theorem dL_law_2984 : decode cL_law 2984 = .ok (.ifCond .ne 15, 3) := by decide +kernel
theorem dL_law_2987 : decode cL_law 2987 = .ok (.aload_n 3, 1) := by decide +kernel
theorem dL_law_2988 : decode cL_law 2988 = .ok (.iconst 0, 1) := by decide +kernel
theorem dL_law_2989 : decode cL_law 2989 = .ok (.laload, 1) := by decide +kernel
theorem dL_law_2990 : decode cL_law 2990 = .ok (.iload 7, 2) := by decide +kernel
theorem dL_law_2992 : decode cL_law 2992 = .ok (.i2l, 1) := by decide +kernel
theorem dL_law_2993 : decode cL_law 2993 = .ok (.lcmp, 1) := by decide +kernel
theorem dL_law_2994 : decode cL_law 2994 = .ok (.ifCond .eq 5, 3) := by decide +kernel
theorem dL_law_2997 : decode cL_law 2997 = .ok (.iconst 0, 1) := by decide +kernel
theorem dL_law_2998 : decode cL_law 2998 = .ok (.ireturn, 1) := by decide +kernel
theorem dL_law_2999 : decode cL_law 2999 = .ok (.goto 628, 3) := by decide +kernel
theorem dL_law_3002 : decode cL_law 3002 = .ok (.aload_n 1, 1) := by decide +kernel
theorem dL_law_3003 : decode cL_law 3003 = .ok (.aload_n 0, 1) := by decide +kernel
theorem dL_law_3004 : decode cL_law 3004 = .ok (.iload 5, 2) := by decide +kernel
theorem dL_law_3006 : decode cL_law 3006 = .ok (.iconst 1, 1) := by decide +kernel
theorem dL_law_3007 : decode cL_law 3007 = .ok (.iadd, 1) := by decide +kernel
theorem dL_law_3008 : decode cL_law 3008 = .ok (.iaload, 1) := by decide +kernel
theorem dL_law_3009 : decode cL_law 3009 = .ok (.aload_n 0, 1) := by decide +kernel
theorem dL_law_3010 : decode cL_law 3010 = .ok (.iload 5, 2) := by decide +kernel
theorem dL_law_3012 : decode cL_law 3012 = .ok (.iconst 2, 1) := by decide +kernel
theorem dL_law_3013 : decode cL_law 3013 = .ok (.iadd, 1) := by decide +kernel
theorem dL_law_3014 : decode cL_law 3014 = .ok (.iaload, 1) := by decide +kernel
theorem dL_law_3015 : decode cL_law 3015 = .ok (.aload_n 0, 1) := by decide +kernel
theorem dL_law_3016 : decode cL_law 3016 = .ok (.iload 5, 2) := by decide +kernel
theorem dL_law_3018 : decode cL_law 3018 = .ok (.iconst 3, 1) := by decide +kernel
theorem dL_law_3019 : decode cL_law 3019 = .ok (.iadd, 1) := by decide +kernel
theorem dL_law_3020 : decode cL_law 3020 = .ok (.iaload, 1) := by decide +kernel
theorem dL_law_3021 : decode cL_law 3021 = .ok (.aload_n 3, 1) := by decide +kernel
theorem dL_law_3022 : decode cL_law 3022 = .ok (.invokestatic 310, 3) := by decide +kernel
theorem dL_law_3025 : decode cL_law 3025 = .ok (.istore 6, 2) := by decide +kernel
theorem dL_law_3027 : decode cL_law 3027 = .ok (.aload_n 2, 1) := by decide +kernel
theorem dL_law_3028 : decode cL_law 3028 = .ok (.aload_n 0, 1) := by decide +kernel
theorem dL_law_3029 : decode cL_law 3029 = .ok (.iload 5, 2) := by decide +kernel
theorem dL_law_3031 : decode cL_law 3031 = .ok (.iconst 1, 1) := by decide +kernel
theorem dL_law_3032 : decode cL_law 3032 = .ok (.iadd, 1) := by decide +kernel
theorem dL_law_3033 : decode cL_law 3033 = .ok (.iaload, 1) := by decide +kernel
theorem dL_law_3034 : decode cL_law 3034 = .ok (.aload_n 0, 1) := by decide +kernel
theorem dL_law_3035 : decode cL_law 3035 = .ok (.iload 5, 2) := by decide +kernel
theorem dL_law_3037 : decode cL_law 3037 = .ok (.iconst 2, 1) := by decide +kernel
theorem dL_law_3038 : decode cL_law 3038 = .ok (.iadd, 1) := by decide +kernel
theorem dL_law_3039 : decode cL_law 3039 = .ok (.iaload, 1) := by decide +kernel
theorem dL_law_3040 : decode cL_law 3040 = .ok (.aload_n 0, 1) := by decide +kernel
theorem dL_law_3041 : decode cL_law 3041 = .ok (.iload 5, 2) := by decide +kernel
theorem dL_law_3043 : decode cL_law 3043 = .ok (.iconst 3, 1) := by decide +kernel
theorem dL_law_3044 : decode cL_law 3044 = .ok (.iadd, 1) := by decide +kernel
theorem dL_law_3045 : decode cL_law 3045 = .ok (.iaload, 1) := by decide +kernel
theorem dL_law_3046 : decode cL_law 3046 = .ok (.invokevirtual 312, 3) := by decide +kernel
theorem dL_law_3049 : decode cL_law 3049 = .ok (.istore 7, 2) := by decide +kernel
theorem dL_law_3051 : decode cL_law 3051 = .ok (.aload_n 2, 1) := by decide +kernel
theorem dL_law_3052 : decode cL_law 3052 = .ok (.invokevirtual 179, 3) := by decide +kernel
theorem dL_law_3055 : decode cL_law 3055 = .ok (.iload 6, 2) := by decide +kernel
theorem dL_law_3057 : decode cL_law 3057 = .ok (.if_icmp .eq 5, 3) := by decide +kernel
theorem dL_law_3060 : decode cL_law 3060 = .ok (.iconst 0, 1) := by decide +kernel
theorem dL_law_3061 : decode cL_law 3061 = .ok (.ireturn, 1) := by decide +kernel
theorem dL_law_3062 : decode cL_law 3062 = .ok (.iload 6, 2) := by decide +kernel
theorem dL_law_3064 : decode cL_law 3064 = .ok (.ifCond .ne 15, 3) := by decide +kernel
theorem dL_law_3067 : decode cL_law 3067 = .ok (.aload_n 3, 1) := by decide +kernel
theorem dL_law_3068 : decode cL_law 3068 = .ok (.iconst 0, 1) := by decide +kernel
theorem dL_law_3069 : decode cL_law 3069 = .ok (.laload, 1) := by decide +kernel
theorem dL_law_3070 : decode cL_law 3070 = .ok (.iload 7, 2) := by decide +kernel
theorem dL_law_3072 : decode cL_law 3072 = .ok (.i2l, 1) := by decide +kernel
theorem dL_law_3073 : decode cL_law 3073 = .ok (.lcmp, 1) := by decide +kernel
theorem dL_law_3074 : decode cL_law 3074 = .ok (.ifCond .eq 5, 3) := by decide +kernel
theorem dL_law_3077 : decode cL_law 3077 = .ok (.iconst 0, 1) := by decide +kernel
theorem dL_law_3078 : decode cL_law 3078 = .ok (.ireturn, 1) := by decide +kernel
theorem dL_law_3079 : decode cL_law 3079 = .ok (.goto 548, 3) := by decide +kernel
theorem dL_law_3082 : decode cL_law 3082 = .ok (.aload_n 1, 1) := by decide +kernel
theorem dL_law_3083 : decode cL_law 3083 = .ok (.aload_n 0, 1) := by decide +kernel
theorem dL_law_3084 : decode cL_law 3084 = .ok (.iload 5, 2) := by decide +kernel
theorem dL_law_3086 : decode cL_law 3086 = .ok (.iconst 1, 1) := by decide +kernel
theorem dL_law_3087 : decode cL_law 3087 = .ok (.iadd, 1) := by decide +kernel
theorem dL_law_3088 : decode cL_law 3088 = .ok (.iaload, 1) := by decide +kernel
theorem dL_law_3089 : decode cL_law 3089 = .ok (.aload_n 0, 1) := by decide +kernel
theorem dL_law_3090 : decode cL_law 3090 = .ok (.iload 5, 2) := by decide +kernel
theorem dL_law_3092 : decode cL_law 3092 = .ok (.iconst 2, 1) := by decide +kernel
theorem dL_law_3093 : decode cL_law 3093 = .ok (.iadd, 1) := by decide +kernel
theorem dL_law_3094 : decode cL_law 3094 = .ok (.iaload, 1) := by decide +kernel
theorem dL_law_3095 : decode cL_law 3095 = .ok (.aload_n 0, 1) := by decide +kernel
theorem dL_law_3096 : decode cL_law 3096 = .ok (.iload 5, 2) := by decide +kernel
theorem dL_law_3098 : decode cL_law 3098 = .ok (.iconst 3, 1) := by decide +kernel
theorem dL_law_3099 : decode cL_law 3099 = .ok (.iadd, 1) := by decide +kernel
theorem dL_law_3100 : decode cL_law 3100 = .ok (.iaload, 1) := by decide +kernel
theorem dL_law_3101 : decode cL_law 3101 = .ok (.aload_n 0, 1) := by decide +kernel
theorem dL_law_3102 : decode cL_law 3102 = .ok (.iload 5, 2) := by decide +kernel
theorem dL_law_3104 : decode cL_law 3104 = .ok (.iconst 4, 1) := by decide +kernel
theorem dL_law_3105 : decode cL_law 3105 = .ok (.iadd, 1) := by decide +kernel
theorem dL_law_3106 : decode cL_law 3106 = .ok (.iaload, 1) := by decide +kernel
theorem dL_law_3107 : decode cL_law 3107 = .ok (.aload_n 3, 1) := by decide +kernel
theorem dL_law_3108 : decode cL_law 3108 = .ok (.invokestatic 313, 3) := by decide +kernel
theorem dL_law_3111 : decode cL_law 3111 = .ok (.istore 6, 2) := by decide +kernel
theorem dL_law_3113 : decode cL_law 3113 = .ok (.aload_n 2, 1) := by decide +kernel
theorem dL_law_3114 : decode cL_law 3114 = .ok (.aload_n 0, 1) := by decide +kernel
theorem dL_law_3115 : decode cL_law 3115 = .ok (.iload 5, 2) := by decide +kernel
theorem dL_law_3117 : decode cL_law 3117 = .ok (.iconst 1, 1) := by decide +kernel
theorem dL_law_3118 : decode cL_law 3118 = .ok (.iadd, 1) := by decide +kernel
theorem dL_law_3119 : decode cL_law 3119 = .ok (.iaload, 1) := by decide +kernel
theorem dL_law_3120 : decode cL_law 3120 = .ok (.aload_n 0, 1) := by decide +kernel
theorem dL_law_3121 : decode cL_law 3121 = .ok (.iload 5, 2) := by decide +kernel
theorem dL_law_3123 : decode cL_law 3123 = .ok (.iconst 2, 1) := by decide +kernel
theorem dL_law_3124 : decode cL_law 3124 = .ok (.iadd, 1) := by decide +kernel
theorem dL_law_3125 : decode cL_law 3125 = .ok (.iaload, 1) := by decide +kernel
theorem dL_law_3126 : decode cL_law 3126 = .ok (.aload_n 0, 1) := by decide +kernel
theorem dL_law_3127 : decode cL_law 3127 = .ok (.iload 5, 2) := by decide +kernel
theorem dL_law_3129 : decode cL_law 3129 = .ok (.iconst 3, 1) := by decide +kernel
theorem dL_law_3130 : decode cL_law 3130 = .ok (.iadd, 1) := by decide +kernel
theorem dL_law_3131 : decode cL_law 3131 = .ok (.iaload, 1) := by decide +kernel
theorem dL_law_3132 : decode cL_law 3132 = .ok (.aload_n 0, 1) := by decide +kernel
theorem dL_law_3133 : decode cL_law 3133 = .ok (.iload 5, 2) := by decide +kernel
theorem dL_law_3135 : decode cL_law 3135 = .ok (.iconst 4, 1) := by decide +kernel
theorem dL_law_3136 : decode cL_law 3136 = .ok (.iadd, 1) := by decide +kernel
theorem dL_law_3137 : decode cL_law 3137 = .ok (.iaload, 1) := by decide +kernel
theorem dL_law_3138 : decode cL_law 3138 = .ok (.invokevirtual 315, 3) := by decide +kernel
theorem dL_law_3141 : decode cL_law 3141 = .ok (.istore 7, 2) := by decide +kernel
theorem dL_law_3143 : decode cL_law 3143 = .ok (.aload_n 2, 1) := by decide +kernel
theorem dL_law_3144 : decode cL_law 3144 = .ok (.invokevirtual 179, 3) := by decide +kernel
theorem dL_law_3147 : decode cL_law 3147 = .ok (.iload 6, 2) := by decide +kernel
theorem dL_law_3149 : decode cL_law 3149 = .ok (.if_icmp .eq 5, 3) := by decide +kernel
theorem dL_law_3152 : decode cL_law 3152 = .ok (.iconst 0, 1) := by decide +kernel
theorem dL_law_3153 : decode cL_law 3153 = .ok (.ireturn, 1) := by decide +kernel
theorem dL_law_3154 : decode cL_law 3154 = .ok (.iload 6, 2) := by decide +kernel
theorem dL_law_3156 : decode cL_law 3156 = .ok (.ifCond .ne 15, 3) := by decide +kernel
theorem dL_law_3159 : decode cL_law 3159 = .ok (.aload_n 3, 1) := by decide +kernel
theorem dL_law_3160 : decode cL_law 3160 = .ok (.iconst 0, 1) := by decide +kernel
theorem dL_law_3161 : decode cL_law 3161 = .ok (.laload, 1) := by decide +kernel
theorem dL_law_3162 : decode cL_law 3162 = .ok (.iload 7, 2) := by decide +kernel
theorem dL_law_3164 : decode cL_law 3164 = .ok (.i2l, 1) := by decide +kernel
theorem dL_law_3165 : decode cL_law 3165 = .ok (.lcmp, 1) := by decide +kernel
theorem dL_law_3166 : decode cL_law 3166 = .ok (.ifCond .eq 5, 3) := by decide +kernel
theorem dL_law_3169 : decode cL_law 3169 = .ok (.iconst 0, 1) := by decide +kernel
theorem dL_law_3170 : decode cL_law 3170 = .ok (.ireturn, 1) := by decide +kernel
theorem dL_law_3171 : decode cL_law 3171 = .ok (.goto 456, 3) := by decide +kernel
theorem dL_law_3174 : decode cL_law 3174 = .ok (.aload_n 1, 1) := by decide +kernel
theorem dL_law_3175 : decode cL_law 3175 = .ok (.aload_n 0, 1) := by decide +kernel
theorem dL_law_3176 : decode cL_law 3176 = .ok (.iload 5, 2) := by decide +kernel
theorem dL_law_3178 : decode cL_law 3178 = .ok (.iconst 1, 1) := by decide +kernel
theorem dL_law_3179 : decode cL_law 3179 = .ok (.iadd, 1) := by decide +kernel
theorem dL_law_3180 : decode cL_law 3180 = .ok (.iaload, 1) := by decide +kernel
theorem dL_law_3181 : decode cL_law 3181 = .ok (.aload_n 0, 1) := by decide +kernel
theorem dL_law_3182 : decode cL_law 3182 = .ok (.iload 5, 2) := by decide +kernel
theorem dL_law_3184 : decode cL_law 3184 = .ok (.iconst 2, 1) := by decide +kernel
theorem dL_law_3185 : decode cL_law 3185 = .ok (.iadd, 1) := by decide +kernel
theorem dL_law_3186 : decode cL_law 3186 = .ok (.iaload, 1) := by decide +kernel
theorem dL_law_3187 : decode cL_law 3187 = .ok (.aload_n 0, 1) := by decide +kernel
theorem dL_law_3188 : decode cL_law 3188 = .ok (.iload 5, 2) := by decide +kernel
theorem dL_law_3190 : decode cL_law 3190 = .ok (.iconst 3, 1) := by decide +kernel
theorem dL_law_3191 : decode cL_law 3191 = .ok (.iadd, 1) := by decide +kernel
theorem dL_law_3192 : decode cL_law 3192 = .ok (.iaload, 1) := by decide +kernel
theorem dL_law_3193 : decode cL_law 3193 = .ok (.aload_n 0, 1) := by decide +kernel
theorem dL_law_3194 : decode cL_law 3194 = .ok (.iload 5, 2) := by decide +kernel
theorem dL_law_3196 : decode cL_law 3196 = .ok (.iconst 4, 1) := by decide +kernel
theorem dL_law_3197 : decode cL_law 3197 = .ok (.iadd, 1) := by decide +kernel
theorem dL_law_3198 : decode cL_law 3198 = .ok (.iaload, 1) := by decide +kernel
theorem dL_law_3199 : decode cL_law 3199 = .ok (.aload_n 3, 1) := by decide +kernel
theorem dL_law_3200 : decode cL_law 3200 = .ok (.invokestatic 316, 3) := by decide +kernel
theorem dL_law_3203 : decode cL_law 3203 = .ok (.istore 6, 2) := by decide +kernel
theorem dL_law_3205 : decode cL_law 3205 = .ok (.aload_n 2, 1) := by decide +kernel
theorem dL_law_3206 : decode cL_law 3206 = .ok (.aload_n 0, 1) := by decide +kernel
theorem dL_law_3207 : decode cL_law 3207 = .ok (.iload 5, 2) := by decide +kernel
theorem dL_law_3209 : decode cL_law 3209 = .ok (.iconst 1, 1) := by decide +kernel
theorem dL_law_3210 : decode cL_law 3210 = .ok (.iadd, 1) := by decide +kernel
theorem dL_law_3211 : decode cL_law 3211 = .ok (.iaload, 1) := by decide +kernel
theorem dL_law_3212 : decode cL_law 3212 = .ok (.aload_n 0, 1) := by decide +kernel
theorem dL_law_3213 : decode cL_law 3213 = .ok (.iload 5, 2) := by decide +kernel
theorem dL_law_3215 : decode cL_law 3215 = .ok (.iconst 2, 1) := by decide +kernel
theorem dL_law_3216 : decode cL_law 3216 = .ok (.iadd, 1) := by decide +kernel
theorem dL_law_3217 : decode cL_law 3217 = .ok (.iaload, 1) := by decide +kernel
theorem dL_law_3218 : decode cL_law 3218 = .ok (.aload_n 0, 1) := by decide +kernel
theorem dL_law_3219 : decode cL_law 3219 = .ok (.iload 5, 2) := by decide +kernel
theorem dL_law_3221 : decode cL_law 3221 = .ok (.iconst 3, 1) := by decide +kernel
theorem dL_law_3222 : decode cL_law 3222 = .ok (.iadd, 1) := by decide +kernel
theorem dL_law_3223 : decode cL_law 3223 = .ok (.iaload, 1) := by decide +kernel
theorem dL_law_3224 : decode cL_law 3224 = .ok (.aload_n 0, 1) := by decide +kernel
theorem dL_law_3225 : decode cL_law 3225 = .ok (.iload 5, 2) := by decide +kernel
theorem dL_law_3227 : decode cL_law 3227 = .ok (.iconst 4, 1) := by decide +kernel
theorem dL_law_3228 : decode cL_law 3228 = .ok (.iadd, 1) := by decide +kernel
theorem dL_law_3229 : decode cL_law 3229 = .ok (.iaload, 1) := by decide +kernel
theorem dL_law_3230 : decode cL_law 3230 = .ok (.invokevirtual 318, 3) := by decide +kernel
theorem dL_law_3233 : decode cL_law 3233 = .ok (.istore 7, 2) := by decide +kernel
theorem dL_law_3235 : decode cL_law 3235 = .ok (.aload_n 2, 1) := by decide +kernel
theorem dL_law_3236 : decode cL_law 3236 = .ok (.invokevirtual 179, 3) := by decide +kernel
theorem dL_law_3239 : decode cL_law 3239 = .ok (.iload 6, 2) := by decide +kernel
theorem dL_law_3241 : decode cL_law 3241 = .ok (.if_icmp .eq 5, 3) := by decide +kernel
theorem dL_law_3244 : decode cL_law 3244 = .ok (.iconst 0, 1) := by decide +kernel
theorem dL_law_3245 : decode cL_law 3245 = .ok (.ireturn, 1) := by decide +kernel
theorem dL_law_3246 : decode cL_law 3246 = .ok (.iload 6, 2) := by decide +kernel
theorem dL_law_3248 : decode cL_law 3248 = .ok (.ifCond .ne 15, 3) := by decide +kernel
theorem dL_law_3251 : decode cL_law 3251 = .ok (.aload_n 3, 1) := by decide +kernel
theorem dL_law_3252 : decode cL_law 3252 = .ok (.iconst 0, 1) := by decide +kernel
theorem dL_law_3253 : decode cL_law 3253 = .ok (.laload, 1) := by decide +kernel
theorem dL_law_3254 : decode cL_law 3254 = .ok (.iload 7, 2) := by decide +kernel
theorem dL_law_3256 : decode cL_law 3256 = .ok (.i2l, 1) := by decide +kernel
theorem dL_law_3257 : decode cL_law 3257 = .ok (.lcmp, 1) := by decide +kernel
theorem dL_law_3258 : decode cL_law 3258 = .ok (.ifCond .eq 5, 3) := by decide +kernel
theorem dL_law_3261 : decode cL_law 3261 = .ok (.iconst 0, 1) := by decide +kernel
theorem dL_law_3262 : decode cL_law 3262 = .ok (.ireturn, 1) := by decide +kernel
theorem dL_law_3263 : decode cL_law 3263 = .ok (.goto 364, 3) := by decide +kernel
theorem dL_law_3266 : decode cL_law 3266 = .ok (.aload_n 1, 1) := by decide +kernel
theorem dL_law_3267 : decode cL_law 3267 = .ok (.aload_n 0, 1) := by decide +kernel
theorem dL_law_3268 : decode cL_law 3268 = .ok (.iload 5, 2) := by decide +kernel
theorem dL_law_3270 : decode cL_law 3270 = .ok (.iconst 1, 1) := by decide +kernel
theorem dL_law_3271 : decode cL_law 3271 = .ok (.iadd, 1) := by decide +kernel
theorem dL_law_3272 : decode cL_law 3272 = .ok (.iaload, 1) := by decide +kernel
theorem dL_law_3273 : decode cL_law 3273 = .ok (.aload_n 0, 1) := by decide +kernel
theorem dL_law_3274 : decode cL_law 3274 = .ok (.iload 5, 2) := by decide +kernel
theorem dL_law_3276 : decode cL_law 3276 = .ok (.iconst 2, 1) := by decide +kernel
theorem dL_law_3277 : decode cL_law 3277 = .ok (.iadd, 1) := by decide +kernel
theorem dL_law_3278 : decode cL_law 3278 = .ok (.iaload, 1) := by decide +kernel
theorem dL_law_3279 : decode cL_law 3279 = .ok (.aload_n 3, 1) := by decide +kernel
theorem dL_law_3280 : decode cL_law 3280 = .ok (.invokestatic 319, 3) := by decide +kernel
theorem dL_law_3283 : decode cL_law 3283 = .ok (.istore 6, 2) := by decide +kernel
theorem dL_law_3285 : decode cL_law 3285 = .ok (.aload_n 2, 1) := by decide +kernel
theorem dL_law_3286 : decode cL_law 3286 = .ok (.aload_n 0, 1) := by decide +kernel
theorem dL_law_3287 : decode cL_law 3287 = .ok (.iload 5, 2) := by decide +kernel
theorem dL_law_3289 : decode cL_law 3289 = .ok (.iconst 1, 1) := by decide +kernel
theorem dL_law_3290 : decode cL_law 3290 = .ok (.iadd, 1) := by decide +kernel
theorem dL_law_3291 : decode cL_law 3291 = .ok (.iaload, 1) := by decide +kernel
theorem dL_law_3292 : decode cL_law 3292 = .ok (.aload_n 0, 1) := by decide +kernel
theorem dL_law_3293 : decode cL_law 3293 = .ok (.iload 5, 2) := by decide +kernel
theorem dL_law_3295 : decode cL_law 3295 = .ok (.iconst 2, 1) := by decide +kernel
theorem dL_law_3296 : decode cL_law 3296 = .ok (.iadd, 1) := by decide +kernel
theorem dL_law_3297 : decode cL_law 3297 = .ok (.iaload, 1) := by decide +kernel
theorem dL_law_3298 : decode cL_law 3298 = .ok (.invokevirtual 321, 3) := by decide +kernel
theorem dL_law_3301 : decode cL_law 3301 = .ok (.istore 7, 2) := by decide +kernel
theorem dL_law_3303 : decode cL_law 3303 = .ok (.aload_n 2, 1) := by decide +kernel
theorem dL_law_3304 : decode cL_law 3304 = .ok (.invokevirtual 179, 3) := by decide +kernel
theorem dL_law_3307 : decode cL_law 3307 = .ok (.iload 6, 2) := by decide +kernel
theorem dL_law_3309 : decode cL_law 3309 = .ok (.if_icmp .eq 5, 3) := by decide +kernel
theorem dL_law_3312 : decode cL_law 3312 = .ok (.iconst 0, 1) := by decide +kernel
theorem dL_law_3313 : decode cL_law 3313 = .ok (.ireturn, 1) := by decide +kernel
theorem dL_law_3314 : decode cL_law 3314 = .ok (.iload 6, 2) := by decide +kernel
theorem dL_law_3316 : decode cL_law 3316 = .ok (.ifCond .ne 15, 3) := by decide +kernel
theorem dL_law_3319 : decode cL_law 3319 = .ok (.aload_n 3, 1) := by decide +kernel
theorem dL_law_3320 : decode cL_law 3320 = .ok (.iconst 0, 1) := by decide +kernel
theorem dL_law_3321 : decode cL_law 3321 = .ok (.laload, 1) := by decide +kernel
theorem dL_law_3322 : decode cL_law 3322 = .ok (.iload 7, 2) := by decide +kernel
theorem dL_law_3324 : decode cL_law 3324 = .ok (.i2l, 1) := by decide +kernel
theorem dL_law_3325 : decode cL_law 3325 = .ok (.lcmp, 1) := by decide +kernel
theorem dL_law_3326 : decode cL_law 3326 = .ok (.ifCond .eq 5, 3) := by decide +kernel
theorem dL_law_3329 : decode cL_law 3329 = .ok (.iconst 0, 1) := by decide +kernel
theorem dL_law_3330 : decode cL_law 3330 = .ok (.ireturn, 1) := by decide +kernel
theorem dL_law_3331 : decode cL_law 3331 = .ok (.goto 296, 3) := by decide +kernel
theorem dL_law_3334 : decode cL_law 3334 = .ok (.aload_n 1, 1) := by decide +kernel
theorem dL_law_3335 : decode cL_law 3335 = .ok (.aload_n 0, 1) := by decide +kernel
theorem dL_law_3336 : decode cL_law 3336 = .ok (.iload 5, 2) := by decide +kernel
theorem dL_law_3338 : decode cL_law 3338 = .ok (.iconst 1, 1) := by decide +kernel
theorem dL_law_3339 : decode cL_law 3339 = .ok (.iadd, 1) := by decide +kernel
theorem dL_law_3340 : decode cL_law 3340 = .ok (.iaload, 1) := by decide +kernel
theorem dL_law_3341 : decode cL_law 3341 = .ok (.aload_n 3, 1) := by decide +kernel
theorem dL_law_3342 : decode cL_law 3342 = .ok (.invokestatic 322, 3) := by decide +kernel
theorem dL_law_3345 : decode cL_law 3345 = .ok (.istore 6, 2) := by decide +kernel
theorem dL_law_3347 : decode cL_law 3347 = .ok (.aload_n 2, 1) := by decide +kernel
theorem dL_law_3348 : decode cL_law 3348 = .ok (.aload_n 0, 1) := by decide +kernel
theorem dL_law_3349 : decode cL_law 3349 = .ok (.iload 5, 2) := by decide +kernel
theorem dL_law_3351 : decode cL_law 3351 = .ok (.iconst 1, 1) := by decide +kernel
theorem dL_law_3352 : decode cL_law 3352 = .ok (.iadd, 1) := by decide +kernel
theorem dL_law_3353 : decode cL_law 3353 = .ok (.iaload, 1) := by decide +kernel
theorem dL_law_3354 : decode cL_law 3354 = .ok (.invokevirtual 324, 3) := by decide +kernel
theorem dL_law_3357 : decode cL_law 3357 = .ok (.istore 7, 2) := by decide +kernel
theorem dL_law_3359 : decode cL_law 3359 = .ok (.aload_n 2, 1) := by decide +kernel
theorem dL_law_3360 : decode cL_law 3360 = .ok (.invokevirtual 179, 3) := by decide +kernel
theorem dL_law_3363 : decode cL_law 3363 = .ok (.iload 6, 2) := by decide +kernel
theorem dL_law_3365 : decode cL_law 3365 = .ok (.if_icmp .eq 5, 3) := by decide +kernel
theorem dL_law_3368 : decode cL_law 3368 = .ok (.iconst 0, 1) := by decide +kernel
theorem dL_law_3369 : decode cL_law 3369 = .ok (.ireturn, 1) := by decide +kernel
theorem dL_law_3370 : decode cL_law 3370 = .ok (.iload 6, 2) := by decide +kernel
theorem dL_law_3372 : decode cL_law 3372 = .ok (.ifCond .ne 15, 3) := by decide +kernel
theorem dL_law_3375 : decode cL_law 3375 = .ok (.aload_n 3, 1) := by decide +kernel
theorem dL_law_3376 : decode cL_law 3376 = .ok (.iconst 0, 1) := by decide +kernel
theorem dL_law_3377 : decode cL_law 3377 = .ok (.laload, 1) := by decide +kernel
theorem dL_law_3378 : decode cL_law 3378 = .ok (.iload 7, 2) := by decide +kernel
theorem dL_law_3380 : decode cL_law 3380 = .ok (.i2l, 1) := by decide +kernel
theorem dL_law_3381 : decode cL_law 3381 = .ok (.lcmp, 1) := by decide +kernel
theorem dL_law_3382 : decode cL_law 3382 = .ok (.ifCond .eq 5, 3) := by decide +kernel
theorem dL_law_3385 : decode cL_law 3385 = .ok (.iconst 0, 1) := by decide +kernel
theorem dL_law_3386 : decode cL_law 3386 = .ok (.ireturn, 1) := by decide +kernel
theorem dL_law_3387 : decode cL_law 3387 = .ok (.goto 240, 3) := by decide +kernel
theorem dL_law_3390 : decode cL_law 3390 = .ok (.aload_n 1, 1) := by decide +kernel
theorem dL_law_3391 : decode cL_law 3391 = .ok (.aload_n 0, 1) := by decide +kernel
theorem dL_law_3392 : decode cL_law 3392 = .ok (.iload 5, 2) := by decide +kernel
theorem dL_law_3394 : decode cL_law 3394 = .ok (.iconst 1, 1) := by decide +kernel
theorem dL_law_3395 : decode cL_law 3395 = .ok (.iadd, 1) := by decide +kernel
theorem dL_law_3396 : decode cL_law 3396 = .ok (.iaload, 1) := by decide +kernel
theorem dL_law_3397 : decode cL_law 3397 = .ok (.aload_n 0, 1) := by decide +kernel
theorem dL_law_3398 : decode cL_law 3398 = .ok (.iload 5, 2) := by decide +kernel
theorem dL_law_3400 : decode cL_law 3400 = .ok (.iconst 2, 1) := by decide +kernel
theorem dL_law_3401 : decode cL_law 3401 = .ok (.iadd, 1) := by decide +kernel
theorem dL_law_3402 : decode cL_law 3402 = .ok (.iaload, 1) := by decide +kernel
theorem dL_law_3403 : decode cL_law 3403 = .ok (.aload_n 3, 1) := by decide +kernel
theorem dL_law_3404 : decode cL_law 3404 = .ok (.invokestatic 325, 3) := by decide +kernel
theorem dL_law_3407 : decode cL_law 3407 = .ok (.istore 6, 2) := by decide +kernel
theorem dL_law_3409 : decode cL_law 3409 = .ok (.aload_n 2, 1) := by decide +kernel
theorem dL_law_3410 : decode cL_law 3410 = .ok (.aload_n 0, 1) := by decide +kernel
theorem dL_law_3411 : decode cL_law 3411 = .ok (.iload 5, 2) := by decide +kernel
theorem dL_law_3413 : decode cL_law 3413 = .ok (.iconst 1, 1) := by decide +kernel
theorem dL_law_3414 : decode cL_law 3414 = .ok (.iadd, 1) := by decide +kernel
theorem dL_law_3415 : decode cL_law 3415 = .ok (.iaload, 1) := by decide +kernel
theorem dL_law_3416 : decode cL_law 3416 = .ok (.aload_n 0, 1) := by decide +kernel
theorem dL_law_3417 : decode cL_law 3417 = .ok (.iload 5, 2) := by decide +kernel
theorem dL_law_3419 : decode cL_law 3419 = .ok (.iconst 2, 1) := by decide +kernel
theorem dL_law_3420 : decode cL_law 3420 = .ok (.iadd, 1) := by decide +kernel
theorem dL_law_3421 : decode cL_law 3421 = .ok (.iaload, 1) := by decide +kernel
theorem dL_law_3422 : decode cL_law 3422 = .ok (.invokevirtual 327, 3) := by decide +kernel
theorem dL_law_3425 : decode cL_law 3425 = .ok (.istore 7, 2) := by decide +kernel
theorem dL_law_3427 : decode cL_law 3427 = .ok (.aload_n 2, 1) := by decide +kernel
theorem dL_law_3428 : decode cL_law 3428 = .ok (.invokevirtual 179, 3) := by decide +kernel
theorem dL_law_3431 : decode cL_law 3431 = .ok (.iload 6, 2) := by decide +kernel
theorem dL_law_3433 : decode cL_law 3433 = .ok (.if_icmp .eq 5, 3) := by decide +kernel
theorem dL_law_3436 : decode cL_law 3436 = .ok (.iconst 0, 1) := by decide +kernel
theorem dL_law_3437 : decode cL_law 3437 = .ok (.ireturn, 1) := by decide +kernel
theorem dL_law_3438 : decode cL_law 3438 = .ok (.iload 6, 2) := by decide +kernel
theorem dL_law_3440 : decode cL_law 3440 = .ok (.ifCond .ne 15, 3) := by decide +kernel
theorem dL_law_3443 : decode cL_law 3443 = .ok (.aload_n 3, 1) := by decide +kernel
theorem dL_law_3444 : decode cL_law 3444 = .ok (.iconst 0, 1) := by decide +kernel
theorem dL_law_3445 : decode cL_law 3445 = .ok (.laload, 1) := by decide +kernel
theorem dL_law_3446 : decode cL_law 3446 = .ok (.iload 7, 2) := by decide +kernel
theorem dL_law_3448 : decode cL_law 3448 = .ok (.i2l, 1) := by decide +kernel
theorem dL_law_3449 : decode cL_law 3449 = .ok (.lcmp, 1) := by decide +kernel
theorem dL_law_3450 : decode cL_law 3450 = .ok (.ifCond .eq 5, 3) := by decide +kernel
theorem dL_law_3453 : decode cL_law 3453 = .ok (.iconst 0, 1) := by decide +kernel
theorem dL_law_3454 : decode cL_law 3454 = .ok (.ireturn, 1) := by decide +kernel
theorem dL_law_3455 : decode cL_law 3455 = .ok (.goto 172, 3) := by decide +kernel
theorem dL_law_3458 : decode cL_law 3458 = .ok (.aload_n 1, 1) := by decide +kernel
theorem dL_law_3459 : decode cL_law 3459 = .ok (.aload_n 3, 1) := by decide +kernel
theorem dL_law_3460 : decode cL_law 3460 = .ok (.invokestatic 328, 3) := by decide +kernel
theorem dL_law_3463 : decode cL_law 3463 = .ok (.istore 6, 2) := by decide +kernel
theorem dL_law_3465 : decode cL_law 3465 = .ok (.aload_n 2, 1) := by decide +kernel
theorem dL_law_3466 : decode cL_law 3466 = .ok (.invokevirtual 330, 3) := by decide +kernel
theorem dL_law_3469 : decode cL_law 3469 = .ok (.istore 7, 2) := by decide +kernel
theorem dL_law_3471 : decode cL_law 3471 = .ok (.aload_n 2, 1) := by decide +kernel
theorem dL_law_3472 : decode cL_law 3472 = .ok (.invokevirtual 179, 3) := by decide +kernel
theorem dL_law_3475 : decode cL_law 3475 = .ok (.iload 6, 2) := by decide +kernel
theorem dL_law_3477 : decode cL_law 3477 = .ok (.if_icmp .eq 5, 3) := by decide +kernel
theorem dL_law_3480 : decode cL_law 3480 = .ok (.iconst 0, 1) := by decide +kernel
theorem dL_law_3481 : decode cL_law 3481 = .ok (.ireturn, 1) := by decide +kernel
theorem dL_law_3482 : decode cL_law 3482 = .ok (.iload 6, 2) := by decide +kernel
theorem dL_law_3484 : decode cL_law 3484 = .ok (.ifCond .ne 15, 3) := by decide +kernel
theorem dL_law_3487 : decode cL_law 3487 = .ok (.aload_n 3, 1) := by decide +kernel
theorem dL_law_3488 : decode cL_law 3488 = .ok (.iconst 0, 1) := by decide +kernel
theorem dL_law_3489 : decode cL_law 3489 = .ok (.laload, 1) := by decide +kernel
theorem dL_law_3490 : decode cL_law 3490 = .ok (.iload 7, 2) := by decide +kernel
theorem dL_law_3492 : decode cL_law 3492 = .ok (.i2l, 1) := by decide +kernel
theorem dL_law_3493 : decode cL_law 3493 = .ok (.lcmp, 1) := by decide +kernel
theorem dL_law_3494 : decode cL_law 3494 = .ok (.ifCond .eq 5, 3) := by decide +kernel
theorem dL_law_3497 : decode cL_law 3497 = .ok (.iconst 0, 1) := by decide +kernel
theorem dL_law_3498 : decode cL_law 3498 = .ok (.ireturn, 1) := by decide +kernel
theorem dL_law_3499 : decode cL_law 3499 = .ok (.goto 128, 3) := by decide +kernel
theorem dL_law_3502 : decode cL_law 3502 = .ok (.aload_n 1, 1) := by decide +kernel
theorem dL_law_3503 : decode cL_law 3503 = .ok (.invokevirtual 331, 3) := by decide +kernel
theorem dL_law_3506 : decode cL_law 3506 = .ok (.aload_n 2, 1) := by decide +kernel
theorem dL_law_3507 : decode cL_law 3507 = .ok (.invokevirtual 334, 3) := by decide +kernel
theorem dL_law_3510 : decode cL_law 3510 = .ok (.if_icmp .eq 117, 3) := by decide +kernel
theorem dL_law_3513 : decode cL_law 3513 = .ok (.iconst 0, 1) := by decide +kernel
theorem dL_law_3514 : decode cL_law 3514 = .ok (.ireturn, 1) := by decide +kernel
theorem dL_law_3515 : decode cL_law 3515 = .ok (.aload_n 1, 1) := by decide +kernel
theorem dL_law_3516 : decode cL_law 3516 = .ok (.aload_n 0, 1) := by decide +kernel
theorem dL_law_3517 : decode cL_law 3517 = .ok (.iload 5, 2) := by decide +kernel
theorem dL_law_3519 : decode cL_law 3519 = .ok (.iconst 1, 1) := by decide +kernel
theorem dL_law_3520 : decode cL_law 3520 = .ok (.iadd, 1) := by decide +kernel
theorem dL_law_3521 : decode cL_law 3521 = .ok (.iaload, 1) := by decide +kernel
theorem dL_law_3522 : decode cL_law 3522 = .ok (.aload_n 3, 1) := by decide +kernel
theorem dL_law_3523 : decode cL_law 3523 = .ok (.invokestatic 335, 3) := by decide +kernel
theorem dL_law_3526 : decode cL_law 3526 = .ok (.istore 6, 2) := by decide +kernel
theorem dL_law_3528 : decode cL_law 3528 = .ok (.aload_n 2, 1) := by decide +kernel
theorem dL_law_3529 : decode cL_law 3529 = .ok (.aload_n 0, 1) := by decide +kernel
theorem dL_law_3530 : decode cL_law 3530 = .ok (.iload 5, 2) := by decide +kernel
theorem dL_law_3532 : decode cL_law 3532 = .ok (.iconst 1, 1) := by decide +kernel
theorem dL_law_3533 : decode cL_law 3533 = .ok (.iadd, 1) := by decide +kernel
theorem dL_law_3534 : decode cL_law 3534 = .ok (.iaload, 1) := by decide +kernel
theorem dL_law_3535 : decode cL_law 3535 = .ok (.invokevirtual 337, 3) := by decide +kernel
theorem dL_law_3538 : decode cL_law 3538 = .ok (.istore 7, 2) := by decide +kernel
theorem dL_law_3540 : decode cL_law 3540 = .ok (.aload_n 2, 1) := by decide +kernel
theorem dL_law_3541 : decode cL_law 3541 = .ok (.invokevirtual 179, 3) := by decide +kernel
theorem dL_law_3544 : decode cL_law 3544 = .ok (.iload 6, 2) := by decide +kernel
theorem dL_law_3546 : decode cL_law 3546 = .ok (.if_icmp .eq 5, 3) := by decide +kernel
theorem dL_law_3549 : decode cL_law 3549 = .ok (.iconst 0, 1) := by decide +kernel
theorem dL_law_3550 : decode cL_law 3550 = .ok (.ireturn, 1) := by decide +kernel
theorem dL_law_3551 : decode cL_law 3551 = .ok (.iload 6, 2) := by decide +kernel
theorem dL_law_3553 : decode cL_law 3553 = .ok (.ifCond .ne 15, 3) := by decide +kernel
theorem dL_law_3556 : decode cL_law 3556 = .ok (.aload_n 3, 1) := by decide +kernel
theorem dL_law_3557 : decode cL_law 3557 = .ok (.iconst 0, 1) := by decide +kernel
theorem dL_law_3558 : decode cL_law 3558 = .ok (.laload, 1) := by decide +kernel
theorem dL_law_3559 : decode cL_law 3559 = .ok (.iload 7, 2) := by decide +kernel
theorem dL_law_3561 : decode cL_law 3561 = .ok (.i2l, 1) := by decide +kernel
theorem dL_law_3562 : decode cL_law 3562 = .ok (.lcmp, 1) := by decide +kernel
theorem dL_law_3563 : decode cL_law 3563 = .ok (.ifCond .eq 5, 3) := by decide +kernel
theorem dL_law_3566 : decode cL_law 3566 = .ok (.iconst 0, 1) := by decide +kernel
theorem dL_law_3567 : decode cL_law 3567 = .ok (.ireturn, 1) := by decide +kernel
theorem dL_law_3568 : decode cL_law 3568 = .ok (.goto 59, 3) := by decide +kernel
theorem dL_law_3571 : decode cL_law 3571 = .ok (.aload_n 1, 1) := by decide +kernel
theorem dL_law_3572 : decode cL_law 3572 = .ok (.aload_n 0, 1) := by decide +kernel
theorem dL_law_3573 : decode cL_law 3573 = .ok (.iload 5, 2) := by decide +kernel
theorem dL_law_3575 : decode cL_law 3575 = .ok (.iconst 1, 1) := by decide +kernel
theorem dL_law_3576 : decode cL_law 3576 = .ok (.iadd, 1) := by decide +kernel
theorem dL_law_3577 : decode cL_law 3577 = .ok (.iaload, 1) := by decide +kernel
theorem dL_law_3578 : decode cL_law 3578 = .ok (.aload_n 3, 1) := by decide +kernel
theorem dL_law_3579 : decode cL_law 3579 = .ok (.invokestatic 338, 3) := by decide +kernel
theorem dL_law_3582 : decode cL_law 3582 = .ok (.istore 6, 2) := by decide +kernel
theorem dL_law_3584 : decode cL_law 3584 = .ok (.aload_n 2, 1) := by decide +kernel
theorem dL_law_3585 : decode cL_law 3585 = .ok (.aload_n 0, 1) := by decide +kernel
theorem dL_law_3586 : decode cL_law 3586 = .ok (.iload 5, 2) := by decide +kernel
theorem dL_law_3588 : decode cL_law 3588 = .ok (.iconst 1, 1) := by decide +kernel
theorem dL_law_3589 : decode cL_law 3589 = .ok (.iadd, 1) := by decide +kernel
theorem dL_law_3590 : decode cL_law 3590 = .ok (.iaload, 1) := by decide +kernel
theorem dL_law_3591 : decode cL_law 3591 = .ok (.invokevirtual 340, 3) := by decide +kernel
theorem dL_law_3594 : decode cL_law 3594 = .ok (.istore 7, 2) := by decide +kernel
theorem dL_law_3596 : decode cL_law 3596 = .ok (.aload_n 2, 1) := by decide +kernel
theorem dL_law_3597 : decode cL_law 3597 = .ok (.invokevirtual 179, 3) := by decide +kernel
theorem dL_law_3600 : decode cL_law 3600 = .ok (.iload 6, 2) := by decide +kernel
theorem dL_law_3602 : decode cL_law 3602 = .ok (.if_icmp .eq 5, 3) := by decide +kernel
theorem dL_law_3605 : decode cL_law 3605 = .ok (.iconst 0, 1) := by decide +kernel
theorem dL_law_3606 : decode cL_law 3606 = .ok (.ireturn, 1) := by decide +kernel
theorem dL_law_3607 : decode cL_law 3607 = .ok (.iload 6, 2) := by decide +kernel
theorem dL_law_3609 : decode cL_law 3609 = .ok (.ifCond .ne 15, 3) := by decide +kernel
theorem dL_law_3612 : decode cL_law 3612 = .ok (.aload_n 3, 1) := by decide +kernel
theorem dL_law_3613 : decode cL_law 3613 = .ok (.iconst 0, 1) := by decide +kernel
theorem dL_law_3614 : decode cL_law 3614 = .ok (.laload, 1) := by decide +kernel
theorem dL_law_3615 : decode cL_law 3615 = .ok (.iload 7, 2) := by decide +kernel
theorem dL_law_3617 : decode cL_law 3617 = .ok (.i2l, 1) := by decide +kernel
theorem dL_law_3618 : decode cL_law 3618 = .ok (.lcmp, 1) := by decide +kernel
theorem dL_law_3619 : decode cL_law 3619 = .ok (.ifCond .eq 5, 3) := by decide +kernel
theorem dL_law_3622 : decode cL_law 3622 = .ok (.iconst 0, 1) := by decide +kernel
theorem dL_law_3623 : decode cL_law 3623 = .ok (.ireturn, 1) := by decide +kernel
theorem dL_law_3624 : decode cL_law 3624 = .ok (.goto 3, 3) := by decide +kernel
theorem dL_law_3627 : decode cL_law 3627 = .ok (.iinc 5 6, 3) := by decide +kernel
theorem dL_law_3630 : decode cL_law 3630 = .ok (.goto (-3602), 3) := by decide +kernel
theorem dL_law_3633 : decode cL_law 3633 = .ok (.iconst 1, 1) := by decide +kernel
theorem dL_law_3634 : decode cL_law 3634 = .ok (.ireturn, 1) := by decide +kernel
