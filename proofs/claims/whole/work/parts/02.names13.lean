theorem dL_law_2826 : decode cL_law 2826 = .ok (.iconst 1, 1) := by decide +kernel
theorem dL_law_2827 : decode cL_law 2827 = .ok (.iadd, 1) := by decide +kernel
theorem dL_law_2828 : decode cL_law 2828 = .ok (.iaload, 1) := by decide +kernel
theorem dL_law_2829 : decode cL_law 2829 = .ok (.aload_n 0, 1) := by decide +kernel
theorem dL_law_2830 : decode cL_law 2830 = .ok (.iload 5, 2) := by decide +kernel
theorem dL_law_2832 : decode cL_law 2832 = .ok (.iconst 2, 1) := by decide +kernel
theorem dL_law_2833 : decode cL_law 2833 = .ok (.iadd, 1) := by decide +kernel
theorem dL_law_2834 : decode cL_law 2834 = .ok (.iaload, 1) := by decide +kernel
theorem dL_law_2835 : decode cL_law 2835 = .ok (.aload_n 3, 1) := by decide +kernel
theorem dL_law_2836 : decode cL_law 2836 = .ok (.invokestatic 288, 3) := by decide +kernel
theorem dL_law_2839 : decode cL_law 2839 = .ok (.istore 6, 2) := by decide +kernel
theorem dL_law_2841 : decode cL_law 2841 = .ok (.aload_n 2, 1) := by decide +kernel
theorem dL_law_2842 : decode cL_law 2842 = .ok (.aload_n 0, 1) := by decide +kernel
theorem dL_law_2843 : decode cL_law 2843 = .ok (.iload 5, 2) := by decide +kernel
theorem dL_law_2845 : decode cL_law 2845 = .ok (.iconst 1, 1) := by decide +kernel
theorem dL_law_2846 : decode cL_law 2846 = .ok (.iadd, 1) := by decide +kernel
theorem dL_law_2847 : decode cL_law 2847 = .ok (.iaload, 1) := by decide +kernel
theorem dL_law_2848 : decode cL_law 2848 = .ok (.aload_n 0, 1) := by decide +kernel
theorem dL_law_2849 : decode cL_law 2849 = .ok (.iload 5, 2) := by decide +kernel
theorem dL_law_2851 : decode cL_law 2851 = .ok (.iconst 2, 1) := by decide +kernel
theorem dL_law_2852 : decode cL_law 2852 = .ok (.iadd, 1) := by decide +kernel
theorem dL_law_2853 : decode cL_law 2853 = .ok (.iaload, 1) := by decide +kernel
theorem dL_law_2854 : decode cL_law 2854 = .ok (.invokevirtual 290, 3) := by decide +kernel
theorem dL_law_2857 : decode cL_law 2857 = .ok (.istore 7, 2) := by decide +kernel
theorem dL_law_2859 : decode cL_law 2859 = .ok (.aload_n 2, 1) := by decide +kernel
theorem dL_law_2860 : decode cL_law 2860 = .ok (.invokevirtual 170, 3) := by decide +kernel
theorem dL_law_2863 : decode cL_law 2863 = .ok (.iload 6, 2) := by decide +kernel
theorem dL_law_2865 : decode cL_law 2865 = .ok (.if_icmp .eq 5, 3) := by decide +kernel
theorem dL_law_2868 : decode cL_law 2868 = .ok (.iconst 0, 1) := by decide +kernel
theorem dL_law_2869 : decode cL_law 2869 = .ok (.ireturn, 1) := by decide +kernel
theorem dL_law_2870 : decode cL_law 2870 = .ok (.iload 6, 2) := by decide +kernel
theorem dL_law_2872 : decode cL_law 2872 = .ok (.ifCond .ne 15, 3) := by decide +kernel
theorem dL_law_2875 : decode cL_law 2875 = .ok (.aload_n 3, 1) := by decide +kernel
theorem dL_law_2876 : decode cL_law 2876 = .ok (.iconst 0, 1) := by decide +kernel
theorem dL_law_2877 : decode cL_law 2877 = .ok (.laload, 1) := by decide +kernel
theorem dL_law_2878 : decode cL_law 2878 = .ok (.iload 7, 2) := by decide +kernel
theorem dL_law_2880 : decode cL_law 2880 = .ok (.i2l, 1) := by decide +kernel
theorem dL_law_2881 : decode cL_law 2881 = .ok (.lcmp, 1) := by decide +kernel
theorem dL_law_2882 : decode cL_law 2882 = .ok (.ifCond .eq 5, 3) := by decide +kernel
theorem dL_law_2885 : decode cL_law 2885 = .ok (.iconst 0, 1) := by decide +kernel
theorem dL_law_2886 : decode cL_law 2886 = .ok (.ireturn, 1) := by decide +kernel
theorem dL_law_2887 : decode cL_law 2887 = .ok (.goto 560, 3) := by decide +kernel
theorem dL_law_2890 : decode cL_law 2890 = .ok (.aload_n 1, 1) := by decide +kernel
theorem dL_law_2891 : decode cL_law 2891 = .ok (.aload_n 0, 1) := by decide +kernel
theorem dL_law_2892 : decode cL_law 2892 = .ok (.iload 5, 2) := by decide +kernel
theorem dL_law_2894 : decode cL_law 2894 = .ok (.iconst 1, 1) := by decide +kernel
theorem dL_law_2895 : decode cL_law 2895 = .ok (.iadd, 1) := by decide +kernel
theorem dL_law_2896 : decode cL_law 2896 = .ok (.iaload, 1) := by decide +kernel
theorem dL_law_2897 : decode cL_law 2897 = .ok (.aload_n 3, 1) := by decide +kernel
theorem dL_law_2898 : decode cL_law 2898 = .ok (.invokestatic 291, 3) := by decide +kernel
theorem dL_law_2901 : decode cL_law 2901 = .ok (.istore 6, 2) := by decide +kernel
theorem dL_law_2903 : decode cL_law 2903 = .ok (.aload_n 2, 1) := by decide +kernel
theorem dL_law_2904 : decode cL_law 2904 = .ok (.aload_n 0, 1) := by decide +kernel
theorem dL_law_2905 : decode cL_law 2905 = .ok (.iload 5, 2) := by decide +kernel
theorem dL_law_2907 : decode cL_law 2907 = .ok (.iconst 1, 1) := by decide +kernel
theorem dL_law_2908 : decode cL_law 2908 = .ok (.iadd, 1) := by decide +kernel
theorem dL_law_2909 : decode cL_law 2909 = .ok (.iaload, 1) := by decide +kernel
theorem dL_law_2910 : decode cL_law 2910 = .ok (.invokevirtual 293, 3) := by decide +kernel
theorem dL_law_2913 : decode cL_law 2913 = .ok (.istore 7, 2) := by decide +kernel
theorem dL_law_2915 : decode cL_law 2915 = .ok (.aload_n 2, 1) := by decide +kernel
theorem dL_law_2916 : decode cL_law 2916 = .ok (.invokevirtual 170, 3) := by decide +kernel
theorem dL_law_2919 : decode cL_law 2919 = .ok (.iload 6, 2) := by decide +kernel
theorem dL_law_2921 : decode cL_law 2921 = .ok (.if_icmp .eq 5, 3) := by decide +kernel
theorem dL_law_2924 : decode cL_law 2924 = .ok (.iconst 0, 1) := by decide +kernel
theorem dL_law_2925 : decode cL_law 2925 = .ok (.ireturn, 1) := by decide +kernel
theorem dL_law_2926 : decode cL_law 2926 = .ok (.iload 6, 2) := by decide +kernel
theorem dL_law_2928 : decode cL_law 2928 = .ok (.ifCond .ne 15, 3) := by decide +kernel
theorem dL_law_2931 : decode cL_law 2931 = .ok (.aload_n 3, 1) := by decide +kernel
theorem dL_law_2932 : decode cL_law 2932 = .ok (.iconst 0, 1) := by decide +kernel
theorem dL_law_2933 : decode cL_law 2933 = .ok (.laload, 1) := by decide +kernel
theorem dL_law_2934 : decode cL_law 2934 = .ok (.iload 7, 2) := by decide +kernel
theorem dL_law_2936 : decode cL_law 2936 = .ok (.i2l, 1) := by decide +kernel
theorem dL_law_2937 : decode cL_law 2937 = .ok (.lcmp, 1) := by decide +kernel
theorem dL_law_2938 : decode cL_law 2938 = .ok (.ifCond .eq 5, 3) := by decide +kernel
theorem dL_law_2941 : decode cL_law 2941 = .ok (.iconst 0, 1) := by decide +kernel
theorem dL_law_2942 : decode cL_law 2942 = .ok (.ireturn, 1) := by decide +kernel
theorem dL_law_2943 : decode cL_law 2943 = .ok (.goto 504, 3) := by decide +kernel
theorem dL_law_2946 : decode cL_law 2946 = .ok (.aload_n 1, 1) := by decide +kernel
theorem dL_law_2947 : decode cL_law 2947 = .ok (.aload_n 0, 1) := by decide +kernel
theorem dL_law_2948 : decode cL_law 2948 = .ok (.iload 5, 2) := by decide +kernel
theorem dL_law_2950 : decode cL_law 2950 = .ok (.iconst 1, 1) := by decide +kernel
theorem dL_law_2951 : decode cL_law 2951 = .ok (.iadd, 1) := by decide +kernel
theorem dL_law_2952 : decode cL_law 2952 = .ok (.iaload, 1) := by decide +kernel
theorem dL_law_2953 : decode cL_law 2953 = .ok (.i2c, 1) := by decide +kernel
theorem dL_law_2954 : decode cL_law 2954 = .ok (.aload_n 0, 1) := by decide +kernel
theorem dL_law_2955 : decode cL_law 2955 = .ok (.iload 5, 2) := by decide +kernel
theorem dL_law_2957 : decode cL_law 2957 = .ok (.iconst 2, 1) := by decide +kernel
theorem dL_law_2958 : decode cL_law 2958 = .ok (.iadd, 1) := by decide +kernel
theorem dL_law_2959 : decode cL_law 2959 = .ok (.iaload, 1) := by decide +kernel
theorem dL_law_2960 : decode cL_law 2960 = .ok (.i2c, 1) := by decide +kernel
theorem dL_law_2961 : decode cL_law 2961 = .ok (.aload_n 3, 1) := by decide +kernel
theorem dL_law_2962 : decode cL_law 2962 = .ok (.invokestatic 294, 3) := by decide +kernel
theorem dL_law_2965 : decode cL_law 2965 = .ok (.istore 6, 2) := by decide +kernel
theorem dL_law_2967 : decode cL_law 2967 = .ok (.aload_n 2, 1) := by decide +kernel
theorem dL_law_2968 : decode cL_law 2968 = .ok (.aload_n 0, 1) := by decide +kernel
theorem dL_law_2969 : decode cL_law 2969 = .ok (.iload 5, 2) := by decide +kernel
theorem dL_law_2971 : decode cL_law 2971 = .ok (.iconst 1, 1) := by decide +kernel
theorem dL_law_2972 : decode cL_law 2972 = .ok (.iadd, 1) := by decide +kernel
theorem dL_law_2973 : decode cL_law 2973 = .ok (.iaload, 1) := by decide +kernel
theorem dL_law_2974 : decode cL_law 2974 = .ok (.i2c, 1) := by decide +kernel
theorem dL_law_2975 : decode cL_law 2975 = .ok (.aload_n 0, 1) := by decide +kernel
theorem dL_law_2976 : decode cL_law 2976 = .ok (.iload 5, 2) := by decide +kernel
theorem dL_law_2978 : decode cL_law 2978 = .ok (.iconst 2, 1) := by decide +kernel
theorem dL_law_2979 : decode cL_law 2979 = .ok (.iadd, 1) := by decide +kernel
theorem dL_law_2980 : decode cL_law 2980 = .ok (.iaload, 1) := by decide +kernel
theorem dL_law_2981 : decode cL_law 2981 = .ok (.i2c, 1) := by decide +kernel
theorem dL_law_2982 : decode cL_law 2982 = .ok (.invokevirtual 297, 3) := by decide +kernel
theorem dL_law_2985 : decode cL_law 2985 = .ok (.istore 7, 2) := by decide +kernel
theorem dL_law_2987 : decode cL_law 2987 = .ok (.aload_n 2, 1) := by decide +kernel
theorem dL_law_2988 : decode cL_law 2988 = .ok (.invokevirtual 170, 3) := by decide +kernel
theorem dL_law_2991 : decode cL_law 2991 = .ok (.iload 6, 2) := by decide +kernel
theorem dL_law_2993 : decode cL_law 2993 = .ok (.if_icmp .eq 5, 3) := by decide +kernel
theorem dL_law_2996 : decode cL_law 2996 = .ok (.iconst 0, 1) := by decide +kernel
theorem dL_law_2997 : decode cL_law 2997 = .ok (.ireturn, 1) := by decide +kernel
theorem dL_law_2998 : decode cL_law 2998 = .ok (.iload 6, 2) := by decide +kernel
theorem dL_law_3000 : decode cL_law 3000 = .ok (.ifCond .ne 15, 3) := by decide +kernel
theorem dL_law_3003 : decode cL_law 3003 = .ok (.aload_n 3, 1) := by decide +kernel
theorem dL_law_3004 : decode cL_law 3004 = .ok (.iconst 0, 1) := by decide +kernel
theorem dL_law_3005 : decode cL_law 3005 = .ok (.laload, 1) := by decide +kernel
theorem dL_law_3006 : decode cL_law 3006 = .ok (.iload 7, 2) := by decide +kernel
theorem dL_law_3008 : decode cL_law 3008 = .ok (.i2l, 1) := by decide +kernel
theorem dL_law_3009 : decode cL_law 3009 = .ok (.lcmp, 1) := by decide +kernel
theorem dL_law_3010 : decode cL_law 3010 = .ok (.ifCond .eq 5, 3) := by decide +kernel
theorem dL_law_3013 : decode cL_law 3013 = .ok (.iconst 0, 1) := by decide +kernel
theorem dL_law_3014 : decode cL_law 3014 = .ok (.ireturn, 1) := by decide +kernel
theorem dL_law_3015 : decode cL_law 3015 = .ok (.goto 432, 3) := by decide +kernel
theorem dL_law_3018 : decode cL_law 3018 = .ok (.aload_n 1, 1) := by decide +kernel
theorem dL_law_3019 : decode cL_law 3019 = .ok (.aload_n 3, 1) := by decide +kernel
theorem dL_law_3020 : decode cL_law 3020 = .ok (.invokestatic 298, 3) := by decide +kernel
theorem dL_law_3023 : decode cL_law 3023 = .ok (.istore 6, 2) := by decide +kernel
theorem dL_law_3025 : decode cL_law 3025 = .ok (.aload_n 2, 1) := by decide +kernel
theorem dL_law_3026 : decode cL_law 3026 = .ok (.invokevirtual 300, 3) := by decide +kernel
theorem dL_law_3029 : decode cL_law 3029 = .ok (.istore 7, 2) := by decide +kernel
theorem dL_law_3031 : decode cL_law 3031 = .ok (.aload_n 2, 1) := by decide +kernel
theorem dL_law_3032 : decode cL_law 3032 = .ok (.invokevirtual 170, 3) := by decide +kernel
theorem dL_law_3035 : decode cL_law 3035 = .ok (.iload 6, 2) := by decide +kernel
theorem dL_law_3037 : decode cL_law 3037 = .ok (.if_icmp .eq 5, 3) := by decide +kernel
theorem dL_law_3040 : decode cL_law 3040 = .ok (.iconst 0, 1) := by decide +kernel
theorem dL_law_3041 : decode cL_law 3041 = .ok (.ireturn, 1) := by decide +kernel
theorem dL_law_3042 : decode cL_law 3042 = .ok (.iload 6, 2) := by decide +kernel
theorem dL_law_3044 : decode cL_law 3044 = .ok (.ifCond .ne 15, 3) := by decide +kernel
theorem dL_law_3047 : decode cL_law 3047 = .ok (.aload_n 3, 1) := by decide +kernel
theorem dL_law_3048 : decode cL_law 3048 = .ok (.iconst 0, 1) := by decide +kernel
theorem dL_law_3049 : decode cL_law 3049 = .ok (.laload, 1) := by decide +kernel
theorem dL_law_3050 : decode cL_law 3050 = .ok (.iload 7, 2) := by decide +kernel
theorem dL_law_3052 : decode cL_law 3052 = .ok (.i2l, 1) := by decide +kernel
theorem dL_law_3053 : decode cL_law 3053 = .ok (.lcmp, 1) := by decide +kernel
theorem dL_law_3054 : decode cL_law 3054 = .ok (.ifCond .eq 5, 3) := by decide +kernel
theorem dL_law_3057 : decode cL_law 3057 = .ok (.iconst 0, 1) := by decide +kernel
theorem dL_law_3058 : decode cL_law 3058 = .ok (.ireturn, 1) := by decide +kernel
theorem dL_law_3059 : decode cL_law 3059 = .ok (.goto 388, 3) := by decide +kernel
theorem dL_law_3062 : decode cL_law 3062 = .ok (.aload_n 1, 1) := by decide +kernel
theorem dL_law_3063 : decode cL_law 3063 = .ok (.aload_n 0, 1) := by decide +kernel
theorem dL_law_3064 : decode cL_law 3064 = .ok (.iload 5, 2) := by decide +kernel
theorem dL_law_3066 : decode cL_law 3066 = .ok (.iconst 1, 1) := by decide +kernel
theorem dL_law_3067 : decode cL_law 3067 = .ok (.iadd, 1) := by decide +kernel
theorem dL_law_3068 : decode cL_law 3068 = .ok (.iaload, 1) := by decide +kernel
theorem dL_law_3069 : decode cL_law 3069 = .ok (.aload_n 0, 1) := by decide +kernel
theorem dL_law_3070 : decode cL_law 3070 = .ok (.iload 5, 2) := by decide +kernel
theorem dL_law_3072 : decode cL_law 3072 = .ok (.iconst 2, 1) := by decide +kernel
theorem dL_law_3073 : decode cL_law 3073 = .ok (.iadd, 1) := by decide +kernel
theorem dL_law_3074 : decode cL_law 3074 = .ok (.iaload, 1) := by decide +kernel
theorem dL_law_3075 : decode cL_law 3075 = .ok (.aload_n 3, 1) := by decide +kernel
theorem dL_law_3076 : decode cL_law 3076 = .ok (.invokestatic 301, 3) := by decide +kernel
theorem dL_law_3079 : decode cL_law 3079 = .ok (.istore 6, 2) := by decide +kernel
theorem dL_law_3081 : decode cL_law 3081 = .ok (.aload_n 2, 1) := by decide +kernel
theorem dL_law_3082 : decode cL_law 3082 = .ok (.aload_n 0, 1) := by decide +kernel
theorem dL_law_3083 : decode cL_law 3083 = .ok (.iload 5, 2) := by decide +kernel
theorem dL_law_3085 : decode cL_law 3085 = .ok (.iconst 1, 1) := by decide +kernel
theorem dL_law_3086 : decode cL_law 3086 = .ok (.iadd, 1) := by decide +kernel
theorem dL_law_3087 : decode cL_law 3087 = .ok (.iaload, 1) := by decide +kernel
theorem dL_law_3088 : decode cL_law 3088 = .ok (.aload_n 0, 1) := by decide +kernel
theorem dL_law_3089 : decode cL_law 3089 = .ok (.iload 5, 2) := by decide +kernel
theorem dL_law_3091 : decode cL_law 3091 = .ok (.iconst 2, 1) := by decide +kernel
theorem dL_law_3092 : decode cL_law 3092 = .ok (.iadd, 1) := by decide +kernel
theorem dL_law_3093 : decode cL_law 3093 = .ok (.iaload, 1) := by decide +kernel
theorem dL_law_3094 : decode cL_law 3094 = .ok (.invokevirtual 303, 3) := by decide +kernel
theorem dL_law_3097 : decode cL_law 3097 = .ok (.istore 7, 2) := by decide +kernel
theorem dL_law_3099 : decode cL_law 3099 = .ok (.aload_n 2, 1) := by decide +kernel
theorem dL_law_3100 : decode cL_law 3100 = .ok (.invokevirtual 170, 3) := by decide +kernel
theorem dL_law_3103 : decode cL_law 3103 = .ok (.iload 6, 2) := by decide +kernel
theorem dL_law_3105 : decode cL_law 3105 = .ok (.if_icmp .eq 5, 3) := by decide +kernel
theorem dL_law_3108 : decode cL_law 3108 = .ok (.iconst 0, 1) := by decide +kernel
theorem dL_law_3109 : decode cL_law 3109 = .ok (.ireturn, 1) := by decide +kernel
theorem dL_law_3110 : decode cL_law 3110 = .ok (.iload 6, 2) := by decide +kernel
theorem dL_law_3112 : decode cL_law 3112 = .ok (.ifCond .ne 15, 3) := by decide +kernel
theorem dL_law_3115 : decode cL_law 3115 = .ok (.aload_n 3, 1) := by decide +kernel
theorem dL_law_3116 : decode cL_law 3116 = .ok (.iconst 0, 1) := by decide +kernel
theorem dL_law_3117 : decode cL_law 3117 = .ok (.laload, 1) := by decide +kernel
theorem dL_law_3118 : decode cL_law 3118 = .ok (.iload 7, 2) := by decide +kernel
theorem dL_law_3120 : decode cL_law 3120 = .ok (.i2l, 1) := by decide +kernel
theorem dL_law_3121 : decode cL_law 3121 = .ok (.lcmp, 1) := by decide +kernel
theorem dL_law_3122 : decode cL_law 3122 = .ok (.ifCond .eq 5, 3) := by decide +kernel
theorem dL_law_3125 : decode cL_law 3125 = .ok (.iconst 0, 1) := by decide +kernel
theorem dL_law_3126 : decode cL_law 3126 = .ok (.ireturn, 1) := by decide +kernel
theorem dL_law_3127 : decode cL_law 3127 = .ok (.goto 320, 3) := by decide +kernel
theorem dL_law_3130 : decode cL_law 3130 = .ok (.aload_n 1, 1) := by decide +kernel
theorem dL_law_3131 : decode cL_law 3131 = .ok (.invokevirtual 304, 3) := by decide +kernel
theorem dL_law_3134 : decode cL_law 3134 = .ok (.aload_n 2, 1) := by decide +kernel
theorem dL_law_3135 : decode cL_law 3135 = .ok (.invokevirtual 307, 3) := by decide +kernel
theorem dL_law_3138 : decode cL_law 3138 = .ok (.if_icmp .eq 309, 3) := by decide +kernel
theorem dL_law_3141 : decode cL_law 3141 = .ok (.iconst 0, 1) := by decide +kernel
theorem dL_law_3142 : decode cL_law 3142 = .ok (.ireturn, 1) := by decide +kernel
theorem dL_law_3143 : decode cL_law 3143 = .ok (.aload_n 1, 1) := by decide +kernel
theorem dL_law_3144 : decode cL_law 3144 = .ok (.aload_n 3, 1) := by decide +kernel
theorem dL_law_3145 : decode cL_law 3145 = .ok (.invokestatic 308, 3) := by decide +kernel
theorem dL_law_3148 : decode cL_law 3148 = .ok (.istore 6, 2) := by decide +kernel
theorem dL_law_3150 : decode cL_law 3150 = .ok (.aload_n 2, 1) := by decide +kernel
theorem dL_law_3151 : decode cL_law 3151 = .ok (.invokevirtual 310, 3) := by decide +kernel
theorem dL_law_3154 : decode cL_law 3154 = .ok (.istore 7, 2) := by decide +kernel
theorem dL_law_3156 : decode cL_law 3156 = .ok (.aload_n 2, 1) := by decide +kernel
theorem dL_law_3157 : decode cL_law 3157 = .ok (.invokevirtual 170, 3) := by decide +kernel
theorem dL_law_3160 : decode cL_law 3160 = .ok (.iload 6, 2) := by decide +kernel
theorem dL_law_3162 : decode cL_law 3162 = .ok (.if_icmp .eq 5, 3) := by decide +kernel
theorem dL_law_3165 : decode cL_law 3165 = .ok (.iconst 0, 1) := by decide +kernel
theorem dL_law_3166 : decode cL_law 3166 = .ok (.ireturn, 1) := by decide +kernel
theorem dL_law_3167 : decode cL_law 3167 = .ok (.iload 6, 2) := by decide +kernel
theorem dL_law_3169 : decode cL_law 3169 = .ok (.ifCond .ne 15, 3) := by decide +kernel
theorem dL_law_3172 : decode cL_law 3172 = .ok (.aload_n 3, 1) := by decide +kernel
theorem dL_law_3173 : decode cL_law 3173 = .ok (.iconst 0, 1) := by decide +kernel
theorem dL_law_3174 : decode cL_law 3174 = .ok (.laload, 1) := by decide +kernel
theorem dL_law_3175 : decode cL_law 3175 = .ok (.iload 7, 2) := by decide +kernel
theorem dL_law_3177 : decode cL_law 3177 = .ok (.i2l, 1) := by decide +kernel
theorem dL_law_3178 : decode cL_law 3178 = .ok (.lcmp, 1) := by decide +kernel
theorem dL_law_3179 : decode cL_law 3179 = .ok (.ifCond .eq 5, 3) := by decide +kernel
theorem dL_law_3182 : decode cL_law 3182 = .ok (.iconst 0, 1) := by decide +kernel
theorem dL_law_3183 : decode cL_law 3183 = .ok (.ireturn, 1) := by decide +kernel
theorem dL_law_3184 : decode cL_law 3184 = .ok (.goto 263, 3) := by decide +kernel
theorem dL_law_3187 : decode cL_law 3187 = .ok (.aload_n 1, 1) := by decide +kernel
theorem dL_law_3188 : decode cL_law 3188 = .ok (.invokevirtual 311, 3) := by decide +kernel
theorem dL_law_3191 : decode cL_law 3191 = .ok (.aload_n 2, 1) := by decide +kernel
theorem dL_law_3192 : decode cL_law 3192 = .ok (.invokevirtual 314, 3) := by decide +kernel
theorem dL_law_3195 : decode cL_law 3195 = .ok (.if_icmp .eq 252, 3) := by decide +kernel
theorem dL_law_3198 : decode cL_law 3198 = .ok (.iconst 0, 1) := by decide +kernel
theorem dL_law_3199 : decode cL_law 3199 = .ok (.ireturn, 1) := by decide +kernel
theorem dL_law_3200 : decode cL_law 3200 = .ok (.aload_n 1, 1) := by decide +kernel
theorem dL_law_3201 : decode cL_law 3201 = .ok (.aload_n 0, 1) := by decide +kernel
theorem dL_law_3202 : decode cL_law 3202 = .ok (.iload 5, 2) := by decide +kernel
theorem dL_law_3204 : decode cL_law 3204 = .ok (.iconst 1, 1) := by decide +kernel
theorem dL_law_3205 : decode cL_law 3205 = .ok (.iadd, 1) := by decide +kernel
theorem dL_law_3206 : decode cL_law 3206 = .ok (.iaload, 1) := by decide +kernel
theorem dL_law_3207 : decode cL_law 3207 = .ok (.aload_n 3, 1) := by decide +kernel
theorem dL_law_3208 : decode cL_law 3208 = .ok (.invokestatic 315, 3) := by decide +kernel
theorem dL_law_3211 : decode cL_law 3211 = .ok (.istore 6, 2) := by decide +kernel
theorem dL_law_3213 : decode cL_law 3213 = .ok (.aload_n 2, 1) := by decide +kernel
theorem dL_law_3214 : decode cL_law 3214 = .ok (.aload_n 0, 1) := by decide +kernel
theorem dL_law_3215 : decode cL_law 3215 = .ok (.iload 5, 2) := by decide +kernel
theorem dL_law_3217 : decode cL_law 3217 = .ok (.iconst 1, 1) := by decide +kernel
theorem dL_law_3218 : decode cL_law 3218 = .ok (.iadd, 1) := by decide +kernel
theorem dL_law_3219 : decode cL_law 3219 = .ok (.iaload, 1) := by decide +kernel
theorem dL_law_3220 : decode cL_law 3220 = .ok (.invokevirtual 317, 3) := by decide +kernel
theorem dL_law_3223 : decode cL_law 3223 = .ok (.istore 7, 2) := by decide +kernel
theorem dL_law_3225 : decode cL_law 3225 = .ok (.aload_n 2, 1) := by decide +kernel
theorem dL_law_3226 : decode cL_law 3226 = .ok (.invokevirtual 170, 3) := by decide +kernel
theorem dL_law_3229 : decode cL_law 3229 = .ok (.iload 6, 2) := by decide +kernel
theorem dL_law_3231 : decode cL_law 3231 = .ok (.if_icmp .eq 5, 3) := by decide +kernel
theorem dL_law_3234 : decode cL_law 3234 = .ok (.iconst 0, 1) := by decide +kernel
theorem dL_law_3235 : decode cL_law 3235 = .ok (.ireturn, 1) := by decide +kernel
theorem dL_law_3236 : decode cL_law 3236 = .ok (.iload 6, 2) := by decide +kernel
theorem dL_law_3238 : decode cL_law 3238 = .ok (.ifCond .ne 15, 3) := by decide +kernel
theorem dL_law_3241 : decode cL_law 3241 = .ok (.aload_n 3, 1) := by decide +kernel
theorem dL_law_3242 : decode cL_law 3242 = .ok (.iconst 0, 1) := by decide +kernel
theorem dL_law_3243 : decode cL_law 3243 = .ok (.laload, 1) := by decide +kernel
theorem dL_law_3244 : decode cL_law 3244 = .ok (.iload 7, 2) := by decide +kernel
theorem dL_law_3246 : decode cL_law 3246 = .ok (.i2l, 1) := by decide +kernel
theorem dL_law_3247 : decode cL_law 3247 = .ok (.lcmp, 1) := by decide +kernel
theorem dL_law_3248 : decode cL_law 3248 = .ok (.ifCond .eq 5, 3) := by decide +kernel
theorem dL_law_3251 : decode cL_law 3251 = .ok (.iconst 0, 1) := by decide +kernel
theorem dL_law_3252 : decode cL_law 3252 = .ok (.ireturn, 1) := by decide +kernel
theorem dL_law_3253 : decode cL_law 3253 = .ok (.goto 194, 3) := by decide +kernel
theorem dL_law_3256 : decode cL_law 3256 = .ok (.aload_n 1, 1) := by decide +kernel
theorem dL_law_3257 : decode cL_law 3257 = .ok (.aload_n 0, 1) := by decide +kernel
theorem dL_law_3258 : decode cL_law 3258 = .ok (.iload 5, 2) := by decide +kernel
theorem dL_law_3260 : decode cL_law 3260 = .ok (.iconst 1, 1) := by decide +kernel
theorem dL_law_3261 : decode cL_law 3261 = .ok (.iadd, 1) := by decide +kernel
theorem dL_law_3262 : decode cL_law 3262 = .ok (.iaload, 1) := by decide +kernel
theorem dL_law_3263 : decode cL_law 3263 = .ok (.aload_n 3, 1) := by decide +kernel
theorem dL_law_3264 : decode cL_law 3264 = .ok (.invokestatic 318, 3) := by decide +kernel
theorem dL_law_3267 : decode cL_law 3267 = .ok (.istore 6, 2) := by decide +kernel
theorem dL_law_3269 : decode cL_law 3269 = .ok (.aload_n 2, 1) := by decide +kernel
theorem dL_law_3270 : decode cL_law 3270 = .ok (.aload_n 0, 1) := by decide +kernel
theorem dL_law_3271 : decode cL_law 3271 = .ok (.iload 5, 2) := by decide +kernel
theorem dL_law_3273 : decode cL_law 3273 = .ok (.iconst 1, 1) := by decide +kernel
theorem dL_law_3274 : decode cL_law 3274 = .ok (.iadd, 1) := by decide +kernel
theorem dL_law_3275 : decode cL_law 3275 = .ok (.iaload, 1) := by decide +kernel
theorem dL_law_3276 : decode cL_law 3276 = .ok (.invokevirtual 320, 3) := by decide +kernel
theorem dL_law_3279 : decode cL_law 3279 = .ok (.istore 7, 2) := by decide +kernel
theorem dL_law_3281 : decode cL_law 3281 = .ok (.aload_n 2, 1) := by decide +kernel
theorem dL_law_3282 : decode cL_law 3282 = .ok (.invokevirtual 170, 3) := by decide +kernel
theorem dL_law_3285 : decode cL_law 3285 = .ok (.iload 6, 2) := by decide +kernel
theorem dL_law_3287 : decode cL_law 3287 = .ok (.if_icmp .eq 5, 3) := by decide +kernel
theorem dL_law_3290 : decode cL_law 3290 = .ok (.iconst 0, 1) := by decide +kernel
theorem dL_law_3291 : decode cL_law 3291 = .ok (.ireturn, 1) := by decide +kernel
theorem dL_law_3292 : decode cL_law 3292 = .ok (.iload 6, 2) := by decide +kernel
theorem dL_law_3294 : decode cL_law 3294 = .ok (.ifCond .ne 15, 3) := by decide +kernel
theorem dL_law_3297 : decode cL_law 3297 = .ok (.aload_n 3, 1) := by decide +kernel
theorem dL_law_3298 : decode cL_law 3298 = .ok (.iconst 0, 1) := by decide +kernel
theorem dL_law_3299 : decode cL_law 3299 = .ok (.laload, 1) := by decide +kernel
theorem dL_law_3300 : decode cL_law 3300 = .ok (.iload 7, 2) := by decide +kernel
theorem dL_law_3302 : decode cL_law 3302 = .ok (.i2l, 1) := by decide +kernel
theorem dL_law_3303 : decode cL_law 3303 = .ok (.lcmp, 1) := by decide +kernel
theorem dL_law_3304 : decode cL_law 3304 = .ok (.ifCond .eq 5, 3) := by decide +kernel
theorem dL_law_3307 : decode cL_law 3307 = .ok (.iconst 0, 1) := by decide +kernel
theorem dL_law_3308 : decode cL_law 3308 = .ok (.ireturn, 1) := by decide +kernel
theorem dL_law_3309 : decode cL_law 3309 = .ok (.goto 138, 3) := by decide +kernel
theorem dL_law_3312 : decode cL_law 3312 = .ok (.aload_n 1, 1) := by decide +kernel
theorem dL_law_3313 : decode cL_law 3313 = .ok (.invokevirtual 321, 3) := by decide +kernel
theorem dL_law_3316 : decode cL_law 3316 = .ok (.aload_n 2, 1) := by decide +kernel
theorem dL_law_3317 : decode cL_law 3317 = .ok (.invokevirtual 325, 3) := by decide +kernel
theorem dL_law_3320 : decode cL_law 3320 = .ok (.lcmp, 1) := by decide +kernel
theorem dL_law_3321 : decode cL_law 3321 = .ok (.ifCond .eq 126, 3) := by decide +kernel
theorem dL_law_3324 : decode cL_law 3324 = .ok (.iconst 0, 1) := by decide +kernel
theorem dL_law_3325 : decode cL_law 3325 = .ok (.ireturn, 1) := by decide +kernel
theorem dL_law_3326 : decode cL_law 3326 = .ok (.aload_n 1, 1) := by decide +kernel
theorem dL_law_3327 : decode cL_law 3327 = .ok (.invokevirtual 326, 3) := by decide +kernel
theorem dL_law_3330 : decode cL_law 3330 = .ok (.f2d, 1) := by decide +kernel
theorem dL_law_3331 : decode cL_law 3331 = .ok (.dstore 6, 2) := by decide +kernel
theorem dL_law_3333 : decode cL_law 3333 = .ok (.aload_n 2, 1) := by decide +kernel
theorem dL_law_3334 : decode cL_law 3334 = .ok (.invokevirtual 330, 3) := by decide +kernel
theorem dL_law_3337 : decode cL_law 3337 = .ok (.f2d, 1) := by decide +kernel
theorem dL_law_3338 : decode cL_law 3338 = .ok (.dstore 8, 2) := by decide +kernel
theorem dL_law_3340 : decode cL_law 3340 = .ok (.dload 6, 2) := by decide +kernel
theorem dL_law_3342 : decode cL_law 3342 = .ok (.dload 8, 2) := by decide +kernel
theorem dL_law_3344 : decode cL_law 3344 = .ok (.dcmp .l, 1) := by decide +kernel
theorem dL_law_3345 : decode cL_law 3345 = .ok (.ifCond .eq 21, 3) := by decide +kernel
theorem dL_law_3348 : decode cL_law 3348 = .ok (.dload 6, 2) := by decide +kernel
theorem dL_law_3350 : decode cL_law 3350 = .ok (.dload 6, 2) := by decide +kernel
theorem dL_law_3352 : decode cL_law 3352 = .ok (.dcmp .l, 1) := by decide +kernel
theorem dL_law_3353 : decode cL_law 3353 = .ok (.ifCond .eq 11, 3) := by decide +kernel
theorem dL_law_3356 : decode cL_law 3356 = .ok (.dload 8, 2) := by decide +kernel
theorem dL_law_3358 : decode cL_law 3358 = .ok (.dload 8, 2) := by decide +kernel
theorem dL_law_3360 : decode cL_law 3360 = .ok (.dcmp .l, 1) := by decide +kernel
theorem dL_law_3361 : decode cL_law 3361 = .ok (.ifCond .ne 5, 3) := by decide +kernel
theorem dL_law_3364 : decode cL_law 3364 = .ok (.iconst 0, 1) := by decide +kernel
theorem dL_law_3365 : decode cL_law 3365 = .ok (.ireturn, 1) := by decide +kernel
theorem dL_law_3366 : decode cL_law 3366 = .ok (.goto 81, 3) := by decide +kernel
theorem dL_law_3369 : decode cL_law 3369 = .ok (.aload_n 1, 1) := by decide +kernel
theorem dL_law_3370 : decode cL_law 3370 = .ok (.aload 4, 2) := by decide +kernel
theorem dL_law_3372 : decode cL_law 3372 = .ok (.invokestatic 331, 3) := by decide +kernel
theorem dL_law_3375 : decode cL_law 3375 = .ok (.istore 6, 2) := by decide +kernel
theorem dL_law_3377 : decode cL_law 3377 = .ok (.aload_n 2, 1) := by decide +kernel
theorem dL_law_3378 : decode cL_law 3378 = .ok (.invokevirtual 334, 3) := by decide +kernel
theorem dL_law_3381 : decode cL_law 3381 = .ok (.dstore 7, 2) := by decide +kernel
theorem dL_law_3383 : decode cL_law 3383 = .ok (.aload_n 2, 1) := by decide +kernel
theorem dL_law_3384 : decode cL_law 3384 = .ok (.invokevirtual 170, 3) := by decide +kernel
theorem dL_law_3387 : decode cL_law 3387 = .ok (.iload 6, 2) := by decide +kernel
theorem dL_law_3389 : decode cL_law 3389 = .ok (.if_icmp .eq 5, 3) := by decide +kernel
theorem dL_law_3392 : decode cL_law 3392 = .ok (.iconst 0, 1) := by decide +kernel
theorem dL_law_3393 : decode cL_law 3393 = .ok (.ireturn, 1) := by decide +kernel
theorem dL_law_3394 : decode cL_law 3394 = .ok (.iload 6, 2) := by decide +kernel
theorem dL_law_3396 : decode cL_law 3396 = .ok (.ifCond .ne 35, 3) := by decide +kernel
theorem dL_law_3399 : decode cL_law 3399 = .ok (.aload 4, 2) := by decide +kernel
theorem dL_law_3401 : decode cL_law 3401 = .ok (.iconst 0, 1) := by decide +kernel
theorem dL_law_3402 : decode cL_law 3402 = .ok (.daload, 1) := by decide +kernel
theorem dL_law_3403 : decode cL_law 3403 = .ok (.dload 7, 2) := by decide +kernel
theorem dL_law_3405 : decode cL_law 3405 = .ok (.dcmp .l, 1) := by decide +kernel
theorem dL_law_3406 : decode cL_law 3406 = .ok (.ifCond .eq 25, 3) := by decide +kernel
theorem dL_law_3409 : decode cL_law 3409 = .ok (.aload 4, 2) := by decide +kernel
theorem dL_law_3411 : decode cL_law 3411 = .ok (.iconst 0, 1) := by decide +kernel
theorem dL_law_3412 : decode cL_law 3412 = .ok (.daload, 1) := by decide +kernel
theorem dL_law_3413 : decode cL_law 3413 = .ok (.aload 4, 2) := by decide +kernel
theorem dL_law_3415 : decode cL_law 3415 = .ok (.iconst 0, 1) := by decide +kernel
theorem dL_law_3416 : decode cL_law 3416 = .ok (.daload, 1) := by decide +kernel
theorem dL_law_3417 : decode cL_law 3417 = .ok (.dcmp .l, 1) := by decide +kernel
theorem dL_law_3418 : decode cL_law 3418 = .ok (.ifCond .eq 11, 3) := by decide +kernel
theorem dL_law_3421 : decode cL_law 3421 = .ok (.dload 7, 2) := by decide +kernel
theorem dL_law_3423 : decode cL_law 3423 = .ok (.dload 7, 2) := by decide +kernel
theorem dL_law_3425 : decode cL_law 3425 = .ok (.dcmp .l, 1) := by decide +kernel
theorem dL_law_3426 : decode cL_law 3426 = .ok (.ifCond .ne 5, 3) := by decide +kernel
theorem dL_law_3429 : decode cL_law 3429 = .ok (.iconst 0, 1) := by decide +kernel
theorem dL_law_3430 : decode cL_law 3430 = .ok (.ireturn, 1) := by decide +kernel
theorem dL_law_3431 : decode cL_law 3431 = .ok (.goto 16, 3) := by decide +kernel
theorem dL_law_3434 : decode cL_law 3434 = .ok (.aload_n 1, 1) := by decide +kernel
theorem dL_law_3435 : decode cL_law 3435 = .ok (.invokevirtual 335, 3) := by decide +kernel
theorem dL_law_3438 : decode cL_law 3438 = .ok (.aload_n 2, 1) := by decide +kernel
theorem dL_law_3439 : decode cL_law 3439 = .ok (.invokevirtual 338, 3) := by decide +kernel
theorem dL_law_3442 : decode cL_law 3442 = .ok (.if_icmp .eq 5, 3) := by decide +kernel
theorem dL_law_3445 : decode cL_law 3445 = .ok (.iconst 0, 1) := by decide +kernel
theorem dL_law_3446 : decode cL_law 3446 = .ok (.ireturn, 1) := by decide +kernel
theorem dL_law_3447 : decode cL_law 3447 = .ok (.iinc 5 10, 3) := by decide +kernel
theorem dL_law_3450 : decode cL_law 3450 = .ok (.goto (-3422), 3) := by decide +kernel
theorem dL_law_3453 : decode cL_law 3453 = .ok (.iconst 1, 1) := by decide +kernel
theorem dL_law_3454 : decode cL_law 3454 = .ok (.ireturn, 1) := by decide +kernel
abbrev vwCl : List vw_C := [(RJ0, TJ0, 4), (RJ4, TJ4, 4), (RJ6, TJ6, 1), (RJx00060, TJx00060, 6), (RJx35411, TJx35411, 4), (RJx4a65c, TJx4a65c, 3), (RX0, TX0, 12), (RX1, TX1, 5), (RX2, TX2, 5), (RX3, TX3, 3), (RX4, TX4, 4), (RX5, TX5, 5), (RX6, TX6, 2), (RX7, TX7, 3), (RX8, TX8, 3), (RX9, TX9, 11), (RX10, TX10, 2), (RX11, TX11, 14), (RX12, TX12, 2), (RX13, TX13, 5), (RX14, TX14, 6), (RX15, TX15, 3), (RX16, TX16, 2), (RX17, TX17, 10), (RX18, TX18, 17)]
