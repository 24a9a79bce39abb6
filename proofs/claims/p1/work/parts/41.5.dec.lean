theorem d_L_2964 : decode YL.2.1 2964 = .ok (.invokevirtual 303, 3) ∧ 2964 + 3 = 2967 := by decide +kernel
theorem d_L_2967 : decode YL.2.1 2967 = .ok (.lcmp, 1) ∧ 2967 + 1 = 2968 := by decide +kernel
theorem d_L_2968 : decode YL.2.1 2968 = .ok (.ifCond .eq 511, 3) ∧ ((2968 : Nat) : Int) + 511 = ((3479 : Nat) : Int) ∧ 2968 + 3 = 2971 := by decide +kernel
theorem d_L_2971 : decode YL.2.1 2971 = .ok (.iconst 0, 1) ∧ 2971 + 1 = 2972 := by decide +kernel
theorem d_L_2972 : decode YL.2.1 2972 = .ok (.ireturn, 1) := by decide +kernel
theorem d_L_2973 : decode YL.2.1 2973 = .ok (.aload_n 1, 1) ∧ 2973 + 1 = 2974 := by decide +kernel
theorem d_L_2974 : decode YL.2.1 2974 = .ok (.aload_n 0, 1) ∧ 2974 + 1 = 2975 := by decide +kernel
theorem d_L_2975 : decode YL.2.1 2975 = .ok (.iload_n 3, 1) ∧ 2975 + 1 = 2976 := by decide +kernel
theorem d_L_2976 : decode YL.2.1 2976 = .ok (.iconst 1, 1) ∧ 2976 + 1 = 2977 := by decide +kernel
theorem d_L_2977 : decode YL.2.1 2977 = .ok (.iadd, 1) ∧ 2977 + 1 = 2978 := by decide +kernel
theorem d_L_2978 : decode YL.2.1 2978 = .ok (.iaload, 1) ∧ 2978 + 1 = 2979 := by decide +kernel
theorem d_L_2979 : decode YL.2.1 2979 = .ok (.aload_n 0, 1) ∧ 2979 + 1 = 2980 := by decide +kernel
theorem d_L_2980 : decode YL.2.1 2980 = .ok (.iload_n 3, 1) ∧ 2980 + 1 = 2981 := by decide +kernel
theorem d_L_2981 : decode YL.2.1 2981 = .ok (.iconst 2, 1) ∧ 2981 + 1 = 2982 := by decide +kernel
theorem d_L_2982 : decode YL.2.1 2982 = .ok (.iadd, 1) ∧ 2982 + 1 = 2983 := by decide +kernel
theorem d_L_2983 : decode YL.2.1 2983 = .ok (.iaload, 1) ∧ 2983 + 1 = 2984 := by decide +kernel
theorem d_L_2984 : decode YL.2.1 2984 = .ok (.i2l, 1) ∧ 2984 + 1 = 2985 := by decide +kernel
theorem d_L_2985 : decode YL.2.1 2985 = .ok (.bipush 32, 2) ∧ 2985 + 2 = 2987 := by decide +kernel
theorem d_L_2987 : decode YL.2.1 2987 = .ok (.lshl, 1) ∧ 2987 + 1 = 2988 := by decide +kernel
theorem d_L_2988 : decode YL.2.1 2988 = .ok (.aload_n 0, 1) ∧ 2988 + 1 = 2989 := by decide +kernel
theorem d_L_2989 : decode YL.2.1 2989 = .ok (.iload_n 3, 1) ∧ 2989 + 1 = 2990 := by decide +kernel
theorem d_L_2990 : decode YL.2.1 2990 = .ok (.iconst 3, 1) ∧ 2990 + 1 = 2991 := by decide +kernel
theorem d_L_2991 : decode YL.2.1 2991 = .ok (.iadd, 1) ∧ 2991 + 1 = 2992 := by decide +kernel
theorem d_L_2992 : decode YL.2.1 2992 = .ok (.iaload, 1) ∧ 2992 + 1 = 2993 := by decide +kernel
theorem d_L_2993 : decode YL.2.1 2993 = .ok (.i2l, 1) ∧ 2993 + 1 = 2994 := by decide +kernel
theorem d_L_2994 : decode YL.2.1 2994 = .ok (.ldc2_w 13, 3) ∧ 2994 + 3 = 2997 := by decide +kernel
theorem d_L_2997 : decode YL.2.1 2997 = .ok (.land, 1) ∧ 2997 + 1 = 2998 := by decide +kernel
theorem d_L_2998 : decode YL.2.1 2998 = .ok (.lor, 1) ∧ 2998 + 1 = 2999 := by decide +kernel
theorem d_L_2999 : decode YL.2.1 2999 = .ok (.invokevirtual 304, 3) ∧ 2999 + 3 = 3002 := by decide +kernel
theorem d_L_3002 : decode YL.2.1 3002 = .ok (.aload_n 2, 1) ∧ 3002 + 1 = 3003 := by decide +kernel
theorem d_L_3003 : decode YL.2.1 3003 = .ok (.aload_n 0, 1) ∧ 3003 + 1 = 3004 := by decide +kernel
theorem d_L_3004 : decode YL.2.1 3004 = .ok (.iload_n 3, 1) ∧ 3004 + 1 = 3005 := by decide +kernel
theorem d_L_3005 : decode YL.2.1 3005 = .ok (.iconst 1, 1) ∧ 3005 + 1 = 3006 := by decide +kernel
theorem d_L_3006 : decode YL.2.1 3006 = .ok (.iadd, 1) ∧ 3006 + 1 = 3007 := by decide +kernel
theorem d_L_3007 : decode YL.2.1 3007 = .ok (.iaload, 1) ∧ 3007 + 1 = 3008 := by decide +kernel
theorem d_L_3008 : decode YL.2.1 3008 = .ok (.aload_n 0, 1) ∧ 3008 + 1 = 3009 := by decide +kernel
theorem d_L_3009 : decode YL.2.1 3009 = .ok (.iload_n 3, 1) ∧ 3009 + 1 = 3010 := by decide +kernel
theorem d_L_3010 : decode YL.2.1 3010 = .ok (.iconst 2, 1) ∧ 3010 + 1 = 3011 := by decide +kernel
theorem d_L_3011 : decode YL.2.1 3011 = .ok (.iadd, 1) ∧ 3011 + 1 = 3012 := by decide +kernel
theorem d_L_3012 : decode YL.2.1 3012 = .ok (.iaload, 1) ∧ 3012 + 1 = 3013 := by decide +kernel
theorem d_L_3013 : decode YL.2.1 3013 = .ok (.i2l, 1) ∧ 3013 + 1 = 3014 := by decide +kernel
theorem d_L_3014 : decode YL.2.1 3014 = .ok (.bipush 32, 2) ∧ 3014 + 2 = 3016 := by decide +kernel
theorem d_L_3016 : decode YL.2.1 3016 = .ok (.lshl, 1) ∧ 3016 + 1 = 3017 := by decide +kernel
theorem d_L_3017 : decode YL.2.1 3017 = .ok (.aload_n 0, 1) ∧ 3017 + 1 = 3018 := by decide +kernel
theorem d_L_3018 : decode YL.2.1 3018 = .ok (.iload_n 3, 1) ∧ 3018 + 1 = 3019 := by decide +kernel
theorem d_L_3019 : decode YL.2.1 3019 = .ok (.iconst 3, 1) ∧ 3019 + 1 = 3020 := by decide +kernel
theorem d_L_3020 : decode YL.2.1 3020 = .ok (.iadd, 1) ∧ 3020 + 1 = 3021 := by decide +kernel
theorem d_L_3021 : decode YL.2.1 3021 = .ok (.iaload, 1) ∧ 3021 + 1 = 3022 := by decide +kernel
theorem d_L_3022 : decode YL.2.1 3022 = .ok (.i2l, 1) ∧ 3022 + 1 = 3023 := by decide +kernel
theorem d_L_3023 : decode YL.2.1 3023 = .ok (.ldc2_w 13, 3) ∧ 3023 + 3 = 3026 := by decide +kernel
theorem d_L_3026 : decode YL.2.1 3026 = .ok (.land, 1) ∧ 3026 + 1 = 3027 := by decide +kernel
theorem d_L_3027 : decode YL.2.1 3027 = .ok (.lor, 1) ∧ 3027 + 1 = 3028 := by decide +kernel
theorem d_L_3028 : decode YL.2.1 3028 = .ok (.invokevirtual 307, 3) ∧ 3028 + 3 = 3031 := by decide +kernel
theorem d_L_3031 : decode YL.2.1 3031 = .ok (.lcmp, 1) ∧ 3031 + 1 = 3032 := by decide +kernel
theorem d_L_3032 : decode YL.2.1 3032 = .ok (.ifCond .eq 447, 3) ∧ ((3032 : Nat) : Int) + 447 = ((3479 : Nat) : Int) ∧ 3032 + 3 = 3035 := by decide +kernel
theorem d_L_3035 : decode YL.2.1 3035 = .ok (.iconst 0, 1) ∧ 3035 + 1 = 3036 := by decide +kernel
theorem d_L_3036 : decode YL.2.1 3036 = .ok (.ireturn, 1) := by decide +kernel
theorem d_L_3037 : decode YL.2.1 3037 = .ok (.aload_n 1, 1) ∧ 3037 + 1 = 3038 := by decide +kernel
theorem d_L_3038 : decode YL.2.1 3038 = .ok (.aload_n 0, 1) ∧ 3038 + 1 = 3039 := by decide +kernel
theorem d_L_3039 : decode YL.2.1 3039 = .ok (.iload_n 3, 1) ∧ 3039 + 1 = 3040 := by decide +kernel
theorem d_L_3040 : decode YL.2.1 3040 = .ok (.iconst 1, 1) ∧ 3040 + 1 = 3041 := by decide +kernel
theorem d_L_3041 : decode YL.2.1 3041 = .ok (.iadd, 1) ∧ 3041 + 1 = 3042 := by decide +kernel
theorem d_L_3042 : decode YL.2.1 3042 = .ok (.iaload, 1) ∧ 3042 + 1 = 3043 := by decide +kernel
theorem d_L_3043 : decode YL.2.1 3043 = .ok (.aload_n 0, 1) ∧ 3043 + 1 = 3044 := by decide +kernel
theorem d_L_3044 : decode YL.2.1 3044 = .ok (.iload_n 3, 1) ∧ 3044 + 1 = 3045 := by decide +kernel
theorem d_L_3045 : decode YL.2.1 3045 = .ok (.iconst 2, 1) ∧ 3045 + 1 = 3046 := by decide +kernel
theorem d_L_3046 : decode YL.2.1 3046 = .ok (.iadd, 1) ∧ 3046 + 1 = 3047 := by decide +kernel
theorem d_L_3047 : decode YL.2.1 3047 = .ok (.iaload, 1) ∧ 3047 + 1 = 3048 := by decide +kernel
theorem d_L_3048 : decode YL.2.1 3048 = .ok (.invokevirtual 308, 3) ∧ 3048 + 3 = 3051 := by decide +kernel
theorem d_L_3051 : decode YL.2.1 3051 = .ok (.aload_n 2, 1) ∧ 3051 + 1 = 3052 := by decide +kernel
theorem d_L_3052 : decode YL.2.1 3052 = .ok (.aload_n 0, 1) ∧ 3052 + 1 = 3053 := by decide +kernel
theorem d_L_3053 : decode YL.2.1 3053 = .ok (.iload_n 3, 1) ∧ 3053 + 1 = 3054 := by decide +kernel
theorem d_L_3054 : decode YL.2.1 3054 = .ok (.iconst 1, 1) ∧ 3054 + 1 = 3055 := by decide +kernel
theorem d_L_3055 : decode YL.2.1 3055 = .ok (.iadd, 1) ∧ 3055 + 1 = 3056 := by decide +kernel
theorem d_L_3056 : decode YL.2.1 3056 = .ok (.iaload, 1) ∧ 3056 + 1 = 3057 := by decide +kernel
theorem d_L_3057 : decode YL.2.1 3057 = .ok (.aload_n 0, 1) ∧ 3057 + 1 = 3058 := by decide +kernel
theorem d_L_3058 : decode YL.2.1 3058 = .ok (.iload_n 3, 1) ∧ 3058 + 1 = 3059 := by decide +kernel
theorem d_L_3059 : decode YL.2.1 3059 = .ok (.iconst 2, 1) ∧ 3059 + 1 = 3060 := by decide +kernel
theorem d_L_3060 : decode YL.2.1 3060 = .ok (.iadd, 1) ∧ 3060 + 1 = 3061 := by decide +kernel
theorem d_L_3061 : decode YL.2.1 3061 = .ok (.iaload, 1) ∧ 3061 + 1 = 3062 := by decide +kernel
theorem d_L_3062 : decode YL.2.1 3062 = .ok (.invokevirtual 311, 3) ∧ 3062 + 3 = 3065 := by decide +kernel
theorem d_L_3065 : decode YL.2.1 3065 = .ok (.if_icmp .eq 414, 3) ∧ ((3065 : Nat) : Int) + 414 = ((3479 : Nat) : Int) ∧ 3065 + 3 = 3068 := by decide +kernel
theorem d_L_3068 : decode YL.2.1 3068 = .ok (.iconst 0, 1) ∧ 3068 + 1 = 3069 := by decide +kernel
theorem d_L_3069 : decode YL.2.1 3069 = .ok (.ireturn, 1) := by decide +kernel
theorem d_L_3070 : decode YL.2.1 3070 = .ok (.aload_n 1, 1) ∧ 3070 + 1 = 3071 := by decide +kernel
theorem d_L_3071 : decode YL.2.1 3071 = .ok (.aload_n 0, 1) ∧ 3071 + 1 = 3072 := by decide +kernel
theorem d_L_3072 : decode YL.2.1 3072 = .ok (.iload_n 3, 1) ∧ 3072 + 1 = 3073 := by decide +kernel
theorem d_L_3073 : decode YL.2.1 3073 = .ok (.iconst 1, 1) ∧ 3073 + 1 = 3074 := by decide +kernel
theorem d_L_3074 : decode YL.2.1 3074 = .ok (.iadd, 1) ∧ 3074 + 1 = 3075 := by decide +kernel
theorem d_L_3075 : decode YL.2.1 3075 = .ok (.iaload, 1) ∧ 3075 + 1 = 3076 := by decide +kernel
theorem d_L_3076 : decode YL.2.1 3076 = .ok (.aload_n 0, 1) ∧ 3076 + 1 = 3077 := by decide +kernel
theorem d_L_3077 : decode YL.2.1 3077 = .ok (.iload_n 3, 1) ∧ 3077 + 1 = 3078 := by decide +kernel
theorem d_L_3078 : decode YL.2.1 3078 = .ok (.iconst 2, 1) ∧ 3078 + 1 = 3079 := by decide +kernel
theorem d_L_3079 : decode YL.2.1 3079 = .ok (.iadd, 1) ∧ 3079 + 1 = 3080 := by decide +kernel
theorem d_L_3080 : decode YL.2.1 3080 = .ok (.iaload, 1) ∧ 3080 + 1 = 3081 := by decide +kernel
theorem d_L_3081 : decode YL.2.1 3081 = .ok (.invokevirtual 312, 3) ∧ 3081 + 3 = 3084 := by decide +kernel
theorem d_L_3084 : decode YL.2.1 3084 = .ok (.aload_n 2, 1) ∧ 3084 + 1 = 3085 := by decide +kernel
theorem d_L_3085 : decode YL.2.1 3085 = .ok (.aload_n 0, 1) ∧ 3085 + 1 = 3086 := by decide +kernel
theorem d_L_3086 : decode YL.2.1 3086 = .ok (.iload_n 3, 1) ∧ 3086 + 1 = 3087 := by decide +kernel
theorem d_L_3087 : decode YL.2.1 3087 = .ok (.iconst 1, 1) ∧ 3087 + 1 = 3088 := by decide +kernel
theorem d_L_3088 : decode YL.2.1 3088 = .ok (.iadd, 1) ∧ 3088 + 1 = 3089 := by decide +kernel
theorem d_L_3089 : decode YL.2.1 3089 = .ok (.iaload, 1) ∧ 3089 + 1 = 3090 := by decide +kernel
theorem d_L_3090 : decode YL.2.1 3090 = .ok (.aload_n 0, 1) ∧ 3090 + 1 = 3091 := by decide +kernel
theorem d_L_3091 : decode YL.2.1 3091 = .ok (.iload_n 3, 1) ∧ 3091 + 1 = 3092 := by decide +kernel
theorem d_L_3092 : decode YL.2.1 3092 = .ok (.iconst 2, 1) ∧ 3092 + 1 = 3093 := by decide +kernel
theorem d_L_3093 : decode YL.2.1 3093 = .ok (.iadd, 1) ∧ 3093 + 1 = 3094 := by decide +kernel
theorem d_L_3094 : decode YL.2.1 3094 = .ok (.iaload, 1) ∧ 3094 + 1 = 3095 := by decide +kernel
theorem d_L_3095 : decode YL.2.1 3095 = .ok (.invokevirtual 315, 3) ∧ 3095 + 3 = 3098 := by decide +kernel
theorem d_L_3098 : decode YL.2.1 3098 = .ok (.if_icmp .eq 381, 3) ∧ ((3098 : Nat) : Int) + 381 = ((3479 : Nat) : Int) ∧ 3098 + 3 = 3101 := by decide +kernel
theorem d_L_3101 : decode YL.2.1 3101 = .ok (.iconst 0, 1) ∧ 3101 + 1 = 3102 := by decide +kernel
theorem d_L_3102 : decode YL.2.1 3102 = .ok (.ireturn, 1) := by decide +kernel
theorem d_L_3103 : decode YL.2.1 3103 = .ok (.aload_n 1, 1) ∧ 3103 + 1 = 3104 := by decide +kernel
theorem d_L_3104 : decode YL.2.1 3104 = .ok (.aload_n 0, 1) ∧ 3104 + 1 = 3105 := by decide +kernel
theorem d_L_3105 : decode YL.2.1 3105 = .ok (.iload_n 3, 1) ∧ 3105 + 1 = 3106 := by decide +kernel
theorem d_L_3106 : decode YL.2.1 3106 = .ok (.iconst 1, 1) ∧ 3106 + 1 = 3107 := by decide +kernel
theorem d_L_3107 : decode YL.2.1 3107 = .ok (.iadd, 1) ∧ 3107 + 1 = 3108 := by decide +kernel
theorem d_L_3108 : decode YL.2.1 3108 = .ok (.iaload, 1) ∧ 3108 + 1 = 3109 := by decide +kernel
theorem d_L_3109 : decode YL.2.1 3109 = .ok (.invokevirtual 316, 3) ∧ 3109 + 3 = 3112 := by decide +kernel
theorem d_L_3112 : decode YL.2.1 3112 = .ok (.aload_n 2, 1) ∧ 3112 + 1 = 3113 := by decide +kernel
theorem d_L_3113 : decode YL.2.1 3113 = .ok (.aload_n 0, 1) ∧ 3113 + 1 = 3114 := by decide +kernel
theorem d_L_3114 : decode YL.2.1 3114 = .ok (.iload_n 3, 1) ∧ 3114 + 1 = 3115 := by decide +kernel
theorem d_L_3115 : decode YL.2.1 3115 = .ok (.iconst 1, 1) ∧ 3115 + 1 = 3116 := by decide +kernel
theorem d_L_3116 : decode YL.2.1 3116 = .ok (.iadd, 1) ∧ 3116 + 1 = 3117 := by decide +kernel
theorem d_L_3117 : decode YL.2.1 3117 = .ok (.iaload, 1) ∧ 3117 + 1 = 3118 := by decide +kernel
theorem d_L_3118 : decode YL.2.1 3118 = .ok (.invokevirtual 319, 3) ∧ 3118 + 3 = 3121 := by decide +kernel
theorem d_L_3121 : decode YL.2.1 3121 = .ok (.if_icmp .eq 358, 3) ∧ ((3121 : Nat) : Int) + 358 = ((3479 : Nat) : Int) ∧ 3121 + 3 = 3124 := by decide +kernel
theorem d_L_3124 : decode YL.2.1 3124 = .ok (.iconst 0, 1) ∧ 3124 + 1 = 3125 := by decide +kernel
theorem d_L_3125 : decode YL.2.1 3125 = .ok (.ireturn, 1) := by decide +kernel
theorem d_L_3126 : decode YL.2.1 3126 = .ok (.aload_n 1, 1) ∧ 3126 + 1 = 3127 := by decide +kernel
theorem d_L_3127 : decode YL.2.1 3127 = .ok (.aload_n 0, 1) ∧ 3127 + 1 = 3128 := by decide +kernel
theorem d_L_3128 : decode YL.2.1 3128 = .ok (.iload_n 3, 1) ∧ 3128 + 1 = 3129 := by decide +kernel
theorem d_L_3129 : decode YL.2.1 3129 = .ok (.iconst 1, 1) ∧ 3129 + 1 = 3130 := by decide +kernel
theorem d_L_3130 : decode YL.2.1 3130 = .ok (.iadd, 1) ∧ 3130 + 1 = 3131 := by decide +kernel
theorem d_L_3131 : decode YL.2.1 3131 = .ok (.iaload, 1) ∧ 3131 + 1 = 3132 := by decide +kernel
theorem d_L_3132 : decode YL.2.1 3132 = .ok (.invokevirtual 320, 3) ∧ 3132 + 3 = 3135 := by decide +kernel
theorem d_L_3135 : decode YL.2.1 3135 = .ok (.aload_n 2, 1) ∧ 3135 + 1 = 3136 := by decide +kernel
theorem d_L_3136 : decode YL.2.1 3136 = .ok (.aload_n 0, 1) ∧ 3136 + 1 = 3137 := by decide +kernel
theorem d_L_3137 : decode YL.2.1 3137 = .ok (.iload_n 3, 1) ∧ 3137 + 1 = 3138 := by decide +kernel
theorem d_L_3138 : decode YL.2.1 3138 = .ok (.iconst 1, 1) ∧ 3138 + 1 = 3139 := by decide +kernel
theorem d_L_3139 : decode YL.2.1 3139 = .ok (.iadd, 1) ∧ 3139 + 1 = 3140 := by decide +kernel
theorem d_L_3140 : decode YL.2.1 3140 = .ok (.iaload, 1) ∧ 3140 + 1 = 3141 := by decide +kernel
theorem d_L_3141 : decode YL.2.1 3141 = .ok (.invokevirtual 323, 3) ∧ 3141 + 3 = 3144 := by decide +kernel
theorem d_L_3144 : decode YL.2.1 3144 = .ok (.if_icmp .eq 335, 3) ∧ ((3144 : Nat) : Int) + 335 = ((3479 : Nat) : Int) ∧ 3144 + 3 = 3147 := by decide +kernel
theorem d_L_3147 : decode YL.2.1 3147 = .ok (.iconst 0, 1) ∧ 3147 + 1 = 3148 := by decide +kernel
theorem d_L_3148 : decode YL.2.1 3148 = .ok (.ireturn, 1) := by decide +kernel
theorem d_L_3149 : decode YL.2.1 3149 = .ok (.aload_n 1, 1) ∧ 3149 + 1 = 3150 := by decide +kernel
theorem d_L_3150 : decode YL.2.1 3150 = .ok (.aload_n 0, 1) ∧ 3150 + 1 = 3151 := by decide +kernel
theorem d_L_3151 : decode YL.2.1 3151 = .ok (.iload_n 3, 1) ∧ 3151 + 1 = 3152 := by decide +kernel
theorem d_L_3152 : decode YL.2.1 3152 = .ok (.iconst 1, 1) ∧ 3152 + 1 = 3153 := by decide +kernel
theorem d_L_3153 : decode YL.2.1 3153 = .ok (.iadd, 1) ∧ 3153 + 1 = 3154 := by decide +kernel
theorem d_L_3154 : decode YL.2.1 3154 = .ok (.iaload, 1) ∧ 3154 + 1 = 3155 := by decide +kernel
theorem d_L_3155 : decode YL.2.1 3155 = .ok (.aload_n 0, 1) ∧ 3155 + 1 = 3156 := by decide +kernel
theorem d_L_3156 : decode YL.2.1 3156 = .ok (.iload_n 3, 1) ∧ 3156 + 1 = 3157 := by decide +kernel
theorem d_L_3157 : decode YL.2.1 3157 = .ok (.iconst 2, 1) ∧ 3157 + 1 = 3158 := by decide +kernel
theorem d_L_3158 : decode YL.2.1 3158 = .ok (.iadd, 1) ∧ 3158 + 1 = 3159 := by decide +kernel
theorem d_L_3159 : decode YL.2.1 3159 = .ok (.iaload, 1) ∧ 3159 + 1 = 3160 := by decide +kernel
theorem d_L_3160 : decode YL.2.1 3160 = .ok (.aload_n 0, 1) ∧ 3160 + 1 = 3161 := by decide +kernel
theorem d_L_3161 : decode YL.2.1 3161 = .ok (.iload_n 3, 1) ∧ 3161 + 1 = 3162 := by decide +kernel
theorem d_L_3162 : decode YL.2.1 3162 = .ok (.iconst 3, 1) ∧ 3162 + 1 = 3163 := by decide +kernel
theorem d_L_3163 : decode YL.2.1 3163 = .ok (.iadd, 1) ∧ 3163 + 1 = 3164 := by decide +kernel
theorem d_L_3164 : decode YL.2.1 3164 = .ok (.iaload, 1) ∧ 3164 + 1 = 3165 := by decide +kernel
theorem d_L_3165 : decode YL.2.1 3165 = .ok (.aload_n 0, 1) ∧ 3165 + 1 = 3166 := by decide +kernel
theorem d_L_3166 : decode YL.2.1 3166 = .ok (.iload_n 3, 1) ∧ 3166 + 1 = 3167 := by decide +kernel
theorem d_L_3167 : decode YL.2.1 3167 = .ok (.iconst 4, 1) ∧ 3167 + 1 = 3168 := by decide +kernel
theorem d_L_3168 : decode YL.2.1 3168 = .ok (.iadd, 1) ∧ 3168 + 1 = 3169 := by decide +kernel
theorem d_L_3169 : decode YL.2.1 3169 = .ok (.iaload, 1) ∧ 3169 + 1 = 3170 := by decide +kernel
theorem d_L_3170 : decode YL.2.1 3170 = .ok (.invokevirtual 324, 3) ∧ 3170 + 3 = 3173 := by decide +kernel
theorem d_L_3173 : decode YL.2.1 3173 = .ok (.aload_n 2, 1) ∧ 3173 + 1 = 3174 := by decide +kernel
theorem d_L_3174 : decode YL.2.1 3174 = .ok (.aload_n 0, 1) ∧ 3174 + 1 = 3175 := by decide +kernel
theorem d_L_3175 : decode YL.2.1 3175 = .ok (.iload_n 3, 1) ∧ 3175 + 1 = 3176 := by decide +kernel
theorem d_L_3176 : decode YL.2.1 3176 = .ok (.iconst 1, 1) ∧ 3176 + 1 = 3177 := by decide +kernel
theorem d_L_3177 : decode YL.2.1 3177 = .ok (.iadd, 1) ∧ 3177 + 1 = 3178 := by decide +kernel
theorem d_L_3178 : decode YL.2.1 3178 = .ok (.iaload, 1) ∧ 3178 + 1 = 3179 := by decide +kernel
theorem d_L_3179 : decode YL.2.1 3179 = .ok (.aload_n 0, 1) ∧ 3179 + 1 = 3180 := by decide +kernel
theorem d_L_3180 : decode YL.2.1 3180 = .ok (.iload_n 3, 1) ∧ 3180 + 1 = 3181 := by decide +kernel
theorem d_L_3181 : decode YL.2.1 3181 = .ok (.iconst 2, 1) ∧ 3181 + 1 = 3182 := by decide +kernel
theorem d_L_3182 : decode YL.2.1 3182 = .ok (.iadd, 1) ∧ 3182 + 1 = 3183 := by decide +kernel
theorem d_L_3183 : decode YL.2.1 3183 = .ok (.iaload, 1) ∧ 3183 + 1 = 3184 := by decide +kernel
theorem d_L_3184 : decode YL.2.1 3184 = .ok (.aload_n 0, 1) ∧ 3184 + 1 = 3185 := by decide +kernel
theorem d_L_3185 : decode YL.2.1 3185 = .ok (.iload_n 3, 1) ∧ 3185 + 1 = 3186 := by decide +kernel
theorem d_L_3186 : decode YL.2.1 3186 = .ok (.iconst 3, 1) ∧ 3186 + 1 = 3187 := by decide +kernel
theorem d_L_3187 : decode YL.2.1 3187 = .ok (.iadd, 1) ∧ 3187 + 1 = 3188 := by decide +kernel
theorem d_L_3188 : decode YL.2.1 3188 = .ok (.iaload, 1) ∧ 3188 + 1 = 3189 := by decide +kernel
theorem d_L_3189 : decode YL.2.1 3189 = .ok (.aload_n 0, 1) ∧ 3189 + 1 = 3190 := by decide +kernel
theorem d_L_3190 : decode YL.2.1 3190 = .ok (.iload_n 3, 1) ∧ 3190 + 1 = 3191 := by decide +kernel
theorem d_L_3191 : decode YL.2.1 3191 = .ok (.iconst 4, 1) ∧ 3191 + 1 = 3192 := by decide +kernel
theorem d_L_3192 : decode YL.2.1 3192 = .ok (.iadd, 1) ∧ 3192 + 1 = 3193 := by decide +kernel
theorem d_L_3193 : decode YL.2.1 3193 = .ok (.iaload, 1) ∧ 3193 + 1 = 3194 := by decide +kernel
theorem d_L_3194 : decode YL.2.1 3194 = .ok (.invokevirtual 327, 3) ∧ 3194 + 3 = 3197 := by decide +kernel
theorem d_L_3197 : decode YL.2.1 3197 = .ok (.if_icmp .eq 282, 3) ∧ ((3197 : Nat) : Int) + 282 = ((3479 : Nat) : Int) ∧ 3197 + 3 = 3200 := by decide +kernel
theorem d_L_3200 : decode YL.2.1 3200 = .ok (.iconst 0, 1) ∧ 3200 + 1 = 3201 := by decide +kernel
theorem d_L_3201 : decode YL.2.1 3201 = .ok (.ireturn, 1) := by decide +kernel
theorem d_L_3202 : decode YL.2.1 3202 = .ok (.aload_n 1, 1) ∧ 3202 + 1 = 3203 := by decide +kernel
theorem d_L_3203 : decode YL.2.1 3203 = .ok (.aload_n 0, 1) ∧ 3203 + 1 = 3204 := by decide +kernel
theorem d_L_3204 : decode YL.2.1 3204 = .ok (.iload_n 3, 1) ∧ 3204 + 1 = 3205 := by decide +kernel
theorem d_L_3205 : decode YL.2.1 3205 = .ok (.iconst 1, 1) ∧ 3205 + 1 = 3206 := by decide +kernel
theorem d_L_3206 : decode YL.2.1 3206 = .ok (.iadd, 1) ∧ 3206 + 1 = 3207 := by decide +kernel
theorem d_L_3207 : decode YL.2.1 3207 = .ok (.iaload, 1) ∧ 3207 + 1 = 3208 := by decide +kernel
theorem d_L_3208 : decode YL.2.1 3208 = .ok (.aload_n 0, 1) ∧ 3208 + 1 = 3209 := by decide +kernel
theorem d_L_3209 : decode YL.2.1 3209 = .ok (.iload_n 3, 1) ∧ 3209 + 1 = 3210 := by decide +kernel
theorem d_L_3210 : decode YL.2.1 3210 = .ok (.iconst 2, 1) ∧ 3210 + 1 = 3211 := by decide +kernel
theorem d_L_3211 : decode YL.2.1 3211 = .ok (.iadd, 1) ∧ 3211 + 1 = 3212 := by decide +kernel
theorem d_L_3212 : decode YL.2.1 3212 = .ok (.iaload, 1) ∧ 3212 + 1 = 3213 := by decide +kernel
theorem d_L_3213 : decode YL.2.1 3213 = .ok (.invokevirtual 328, 3) ∧ 3213 + 3 = 3216 := by decide +kernel
theorem d_L_3216 : decode YL.2.1 3216 = .ok (.aload_n 2, 1) ∧ 3216 + 1 = 3217 := by decide +kernel
theorem d_L_3217 : decode YL.2.1 3217 = .ok (.aload_n 0, 1) ∧ 3217 + 1 = 3218 := by decide +kernel
theorem d_L_3218 : decode YL.2.1 3218 = .ok (.iload_n 3, 1) ∧ 3218 + 1 = 3219 := by decide +kernel
theorem d_L_3219 : decode YL.2.1 3219 = .ok (.iconst 1, 1) ∧ 3219 + 1 = 3220 := by decide +kernel
theorem d_L_3220 : decode YL.2.1 3220 = .ok (.iadd, 1) ∧ 3220 + 1 = 3221 := by decide +kernel
theorem d_L_3221 : decode YL.2.1 3221 = .ok (.iaload, 1) ∧ 3221 + 1 = 3222 := by decide +kernel
theorem d_L_3222 : decode YL.2.1 3222 = .ok (.aload_n 0, 1) ∧ 3222 + 1 = 3223 := by decide +kernel
theorem d_L_3223 : decode YL.2.1 3223 = .ok (.iload_n 3, 1) ∧ 3223 + 1 = 3224 := by decide +kernel
theorem d_L_3224 : decode YL.2.1 3224 = .ok (.iconst 2, 1) ∧ 3224 + 1 = 3225 := by decide +kernel
theorem d_L_3225 : decode YL.2.1 3225 = .ok (.iadd, 1) ∧ 3225 + 1 = 3226 := by decide +kernel
theorem d_L_3226 : decode YL.2.1 3226 = .ok (.iaload, 1) ∧ 3226 + 1 = 3227 := by decide +kernel
theorem d_L_3227 : decode YL.2.1 3227 = .ok (.invokevirtual 331, 3) ∧ 3227 + 3 = 3230 := by decide +kernel
theorem d_L_3230 : decode YL.2.1 3230 = .ok (.if_icmp .eq 249, 3) ∧ ((3230 : Nat) : Int) + 249 = ((3479 : Nat) : Int) ∧ 3230 + 3 = 3233 := by decide +kernel
theorem d_L_3233 : decode YL.2.1 3233 = .ok (.iconst 0, 1) ∧ 3233 + 1 = 3234 := by decide +kernel
theorem d_L_3234 : decode YL.2.1 3234 = .ok (.ireturn, 1) := by decide +kernel
theorem d_L_3235 : decode YL.2.1 3235 = .ok (.aload_n 1, 1) ∧ 3235 + 1 = 3236 := by decide +kernel
theorem d_L_3236 : decode YL.2.1 3236 = .ok (.aload_n 0, 1) ∧ 3236 + 1 = 3237 := by decide +kernel
theorem d_L_3237 : decode YL.2.1 3237 = .ok (.iload_n 3, 1) ∧ 3237 + 1 = 3238 := by decide +kernel
theorem d_L_3238 : decode YL.2.1 3238 = .ok (.iconst 1, 1) ∧ 3238 + 1 = 3239 := by decide +kernel
theorem d_L_3239 : decode YL.2.1 3239 = .ok (.iadd, 1) ∧ 3239 + 1 = 3240 := by decide +kernel
theorem d_L_3240 : decode YL.2.1 3240 = .ok (.iaload, 1) ∧ 3240 + 1 = 3241 := by decide +kernel
theorem d_L_3241 : decode YL.2.1 3241 = .ok (.invokevirtual 332, 3) ∧ 3241 + 3 = 3244 := by decide +kernel
theorem d_L_3244 : decode YL.2.1 3244 = .ok (.aload_n 2, 1) ∧ 3244 + 1 = 3245 := by decide +kernel
theorem d_L_3245 : decode YL.2.1 3245 = .ok (.aload_n 0, 1) ∧ 3245 + 1 = 3246 := by decide +kernel
theorem d_L_3246 : decode YL.2.1 3246 = .ok (.iload_n 3, 1) ∧ 3246 + 1 = 3247 := by decide +kernel
theorem d_L_3247 : decode YL.2.1 3247 = .ok (.iconst 1, 1) ∧ 3247 + 1 = 3248 := by decide +kernel
theorem d_L_3248 : decode YL.2.1 3248 = .ok (.iadd, 1) ∧ 3248 + 1 = 3249 := by decide +kernel
theorem d_L_3249 : decode YL.2.1 3249 = .ok (.iaload, 1) ∧ 3249 + 1 = 3250 := by decide +kernel
theorem d_L_3250 : decode YL.2.1 3250 = .ok (.invokevirtual 335, 3) ∧ 3250 + 3 = 3253 := by decide +kernel
theorem d_L_3253 : decode YL.2.1 3253 = .ok (.if_icmp .eq 226, 3) ∧ ((3253 : Nat) : Int) + 226 = ((3479 : Nat) : Int) ∧ 3253 + 3 = 3256 := by decide +kernel
theorem d_L_3256 : decode YL.2.1 3256 = .ok (.iconst 0, 1) ∧ 3256 + 1 = 3257 := by decide +kernel
theorem d_L_3257 : decode YL.2.1 3257 = .ok (.ireturn, 1) := by decide +kernel
theorem d_L_3258 : decode YL.2.1 3258 = .ok (.aload_n 1, 1) ∧ 3258 + 1 = 3259 := by decide +kernel
theorem d_L_3259 : decode YL.2.1 3259 = .ok (.aload_n 0, 1) ∧ 3259 + 1 = 3260 := by decide +kernel
theorem d_L_3260 : decode YL.2.1 3260 = .ok (.iload_n 3, 1) ∧ 3260 + 1 = 3261 := by decide +kernel
theorem d_L_3261 : decode YL.2.1 3261 = .ok (.iconst 1, 1) ∧ 3261 + 1 = 3262 := by decide +kernel
theorem d_L_3262 : decode YL.2.1 3262 = .ok (.iadd, 1) ∧ 3262 + 1 = 3263 := by decide +kernel
theorem d_L_3263 : decode YL.2.1 3263 = .ok (.iaload, 1) ∧ 3263 + 1 = 3264 := by decide +kernel
theorem d_L_3264 : decode YL.2.1 3264 = .ok (.aload_n 0, 1) ∧ 3264 + 1 = 3265 := by decide +kernel
theorem d_L_3265 : decode YL.2.1 3265 = .ok (.iload_n 3, 1) ∧ 3265 + 1 = 3266 := by decide +kernel
theorem d_L_3266 : decode YL.2.1 3266 = .ok (.iconst 2, 1) ∧ 3266 + 1 = 3267 := by decide +kernel
theorem d_L_3267 : decode YL.2.1 3267 = .ok (.iadd, 1) ∧ 3267 + 1 = 3268 := by decide +kernel
theorem d_L_3268 : decode YL.2.1 3268 = .ok (.iaload, 1) ∧ 3268 + 1 = 3269 := by decide +kernel
theorem d_L_3269 : decode YL.2.1 3269 = .ok (.invokevirtual 336, 3) ∧ 3269 + 3 = 3272 := by decide +kernel
theorem d_L_3272 : decode YL.2.1 3272 = .ok (.aload_n 2, 1) ∧ 3272 + 1 = 3273 := by decide +kernel
theorem d_L_3273 : decode YL.2.1 3273 = .ok (.aload_n 0, 1) ∧ 3273 + 1 = 3274 := by decide +kernel
theorem d_L_3274 : decode YL.2.1 3274 = .ok (.iload_n 3, 1) ∧ 3274 + 1 = 3275 := by decide +kernel
theorem d_L_3275 : decode YL.2.1 3275 = .ok (.iconst 1, 1) ∧ 3275 + 1 = 3276 := by decide +kernel
theorem d_L_3276 : decode YL.2.1 3276 = .ok (.iadd, 1) ∧ 3276 + 1 = 3277 := by decide +kernel
theorem d_L_3277 : decode YL.2.1 3277 = .ok (.iaload, 1) ∧ 3277 + 1 = 3278 := by decide +kernel
theorem d_L_3278 : decode YL.2.1 3278 = .ok (.aload_n 0, 1) ∧ 3278 + 1 = 3279 := by decide +kernel
theorem d_L_3279 : decode YL.2.1 3279 = .ok (.iload_n 3, 1) ∧ 3279 + 1 = 3280 := by decide +kernel
theorem d_L_3280 : decode YL.2.1 3280 = .ok (.iconst 2, 1) ∧ 3280 + 1 = 3281 := by decide +kernel
theorem d_L_3281 : decode YL.2.1 3281 = .ok (.iadd, 1) ∧ 3281 + 1 = 3282 := by decide +kernel
theorem d_L_3282 : decode YL.2.1 3282 = .ok (.iaload, 1) ∧ 3282 + 1 = 3283 := by decide +kernel
theorem d_L_3283 : decode YL.2.1 3283 = .ok (.invokevirtual 339, 3) ∧ 3283 + 3 = 3286 := by decide +kernel
theorem d_L_3286 : decode YL.2.1 3286 = .ok (.if_icmp .eq 193, 3) ∧ ((3286 : Nat) : Int) + 193 = ((3479 : Nat) : Int) ∧ 3286 + 3 = 3289 := by decide +kernel
theorem d_L_3289 : decode YL.2.1 3289 = .ok (.iconst 0, 1) ∧ 3289 + 1 = 3290 := by decide +kernel
theorem d_L_3290 : decode YL.2.1 3290 = .ok (.ireturn, 1) := by decide +kernel
theorem d_L_3291 : decode YL.2.1 3291 = .ok (.aload_n 1, 1) ∧ 3291 + 1 = 3292 := by decide +kernel
theorem d_L_3292 : decode YL.2.1 3292 = .ok (.invokevirtual 340, 3) ∧ 3292 + 3 = 3295 := by decide +kernel
theorem d_L_3295 : decode YL.2.1 3295 = .ok (.aload_n 2, 1) ∧ 3295 + 1 = 3296 := by decide +kernel
theorem d_L_3296 : decode YL.2.1 3296 = .ok (.invokevirtual 343, 3) ∧ 3296 + 3 = 3299 := by decide +kernel
theorem d_L_3299 : decode YL.2.1 3299 = .ok (.if_icmp .eq 180, 3) ∧ ((3299 : Nat) : Int) + 180 = ((3479 : Nat) : Int) ∧ 3299 + 3 = 3302 := by decide +kernel
theorem d_L_3302 : decode YL.2.1 3302 = .ok (.iconst 0, 1) ∧ 3302 + 1 = 3303 := by decide +kernel
theorem d_L_3303 : decode YL.2.1 3303 = .ok (.ireturn, 1) := by decide +kernel
theorem d_L_3304 : decode YL.2.1 3304 = .ok (.aload_n 1, 1) ∧ 3304 + 1 = 3305 := by decide +kernel
theorem d_L_3305 : decode YL.2.1 3305 = .ok (.aload_n 0, 1) ∧ 3305 + 1 = 3306 := by decide +kernel
theorem d_L_3306 : decode YL.2.1 3306 = .ok (.iload_n 3, 1) ∧ 3306 + 1 = 3307 := by decide +kernel
theorem d_L_3307 : decode YL.2.1 3307 = .ok (.iconst 1, 1) ∧ 3307 + 1 = 3308 := by decide +kernel
theorem d_L_3308 : decode YL.2.1 3308 = .ok (.iadd, 1) ∧ 3308 + 1 = 3309 := by decide +kernel
theorem d_L_3309 : decode YL.2.1 3309 = .ok (.iaload, 1) ∧ 3309 + 1 = 3310 := by decide +kernel
theorem d_L_3310 : decode YL.2.1 3310 = .ok (.aload_n 0, 1) ∧ 3310 + 1 = 3311 := by decide +kernel
theorem d_L_3311 : decode YL.2.1 3311 = .ok (.iload_n 3, 1) ∧ 3311 + 1 = 3312 := by decide +kernel
theorem d_L_3312 : decode YL.2.1 3312 = .ok (.iconst 2, 1) ∧ 3312 + 1 = 3313 := by decide +kernel
theorem d_L_3313 : decode YL.2.1 3313 = .ok (.iadd, 1) ∧ 3313 + 1 = 3314 := by decide +kernel
theorem d_L_3314 : decode YL.2.1 3314 = .ok (.iaload, 1) ∧ 3314 + 1 = 3315 := by decide +kernel
theorem d_L_3315 : decode YL.2.1 3315 = .ok (.invokevirtual 344, 3) ∧ 3315 + 3 = 3318 := by decide +kernel
theorem d_L_3318 : decode YL.2.1 3318 = .ok (.aload_n 2, 1) ∧ 3318 + 1 = 3319 := by decide +kernel
theorem d_L_3319 : decode YL.2.1 3319 = .ok (.aload_n 0, 1) ∧ 3319 + 1 = 3320 := by decide +kernel
theorem d_L_3320 : decode YL.2.1 3320 = .ok (.iload_n 3, 1) ∧ 3320 + 1 = 3321 := by decide +kernel
theorem d_L_3321 : decode YL.2.1 3321 = .ok (.iconst 1, 1) ∧ 3321 + 1 = 3322 := by decide +kernel
theorem d_L_3322 : decode YL.2.1 3322 = .ok (.iadd, 1) ∧ 3322 + 1 = 3323 := by decide +kernel
theorem d_L_3323 : decode YL.2.1 3323 = .ok (.iaload, 1) ∧ 3323 + 1 = 3324 := by decide +kernel
theorem d_L_3324 : decode YL.2.1 3324 = .ok (.aload_n 0, 1) ∧ 3324 + 1 = 3325 := by decide +kernel
theorem d_L_3325 : decode YL.2.1 3325 = .ok (.iload_n 3, 1) ∧ 3325 + 1 = 3326 := by decide +kernel
theorem d_L_3326 : decode YL.2.1 3326 = .ok (.iconst 2, 1) ∧ 3326 + 1 = 3327 := by decide +kernel
theorem d_L_3327 : decode YL.2.1 3327 = .ok (.iadd, 1) ∧ 3327 + 1 = 3328 := by decide +kernel
theorem d_L_3328 : decode YL.2.1 3328 = .ok (.iaload, 1) ∧ 3328 + 1 = 3329 := by decide +kernel
theorem d_L_3329 : decode YL.2.1 3329 = .ok (.invokevirtual 347, 3) ∧ 3329 + 3 = 3332 := by decide +kernel
theorem d_L_3332 : decode YL.2.1 3332 = .ok (.if_icmp .eq 147, 3) ∧ ((3332 : Nat) : Int) + 147 = ((3479 : Nat) : Int) ∧ 3332 + 3 = 3335 := by decide +kernel
theorem d_L_3335 : decode YL.2.1 3335 = .ok (.iconst 0, 1) ∧ 3335 + 1 = 3336 := by decide +kernel
theorem d_L_3336 : decode YL.2.1 3336 = .ok (.ireturn, 1) := by decide +kernel
theorem d_L_3337 : decode YL.2.1 3337 = .ok (.aload_n 1, 1) ∧ 3337 + 1 = 3338 := by decide +kernel
theorem d_L_3338 : decode YL.2.1 3338 = .ok (.aload_n 0, 1) ∧ 3338 + 1 = 3339 := by decide +kernel
theorem d_L_3339 : decode YL.2.1 3339 = .ok (.iload_n 3, 1) ∧ 3339 + 1 = 3340 := by decide +kernel
theorem d_L_3340 : decode YL.2.1 3340 = .ok (.iconst 1, 1) ∧ 3340 + 1 = 3341 := by decide +kernel
theorem d_L_3341 : decode YL.2.1 3341 = .ok (.iadd, 1) ∧ 3341 + 1 = 3342 := by decide +kernel
theorem d_L_3342 : decode YL.2.1 3342 = .ok (.iaload, 1) ∧ 3342 + 1 = 3343 := by decide +kernel
theorem d_L_3343 : decode YL.2.1 3343 = .ok (.aload_n 0, 1) ∧ 3343 + 1 = 3344 := by decide +kernel
theorem d_L_3344 : decode YL.2.1 3344 = .ok (.iload_n 3, 1) ∧ 3344 + 1 = 3345 := by decide +kernel
theorem d_L_3345 : decode YL.2.1 3345 = .ok (.iconst 2, 1) ∧ 3345 + 1 = 3346 := by decide +kernel
theorem d_L_3346 : decode YL.2.1 3346 = .ok (.iadd, 1) ∧ 3346 + 1 = 3347 := by decide +kernel
theorem d_L_3347 : decode YL.2.1 3347 = .ok (.iaload, 1) ∧ 3347 + 1 = 3348 := by decide +kernel
theorem d_L_3348 : decode YL.2.1 3348 = .ok (.aload_n 0, 1) ∧ 3348 + 1 = 3349 := by decide +kernel
theorem d_L_3349 : decode YL.2.1 3349 = .ok (.iload_n 3, 1) ∧ 3349 + 1 = 3350 := by decide +kernel
theorem d_L_3350 : decode YL.2.1 3350 = .ok (.iconst 3, 1) ∧ 3350 + 1 = 3351 := by decide +kernel
theorem d_L_3351 : decode YL.2.1 3351 = .ok (.iadd, 1) ∧ 3351 + 1 = 3352 := by decide +kernel
theorem d_L_3352 : decode YL.2.1 3352 = .ok (.iaload, 1) ∧ 3352 + 1 = 3353 := by decide +kernel
theorem d_L_3353 : decode YL.2.1 3353 = .ok (.invokevirtual 348, 3) ∧ 3353 + 3 = 3356 := by decide +kernel
theorem d_L_3356 : decode YL.2.1 3356 = .ok (.aload_n 2, 1) ∧ 3356 + 1 = 3357 := by decide +kernel
theorem d_L_3357 : decode YL.2.1 3357 = .ok (.aload_n 0, 1) ∧ 3357 + 1 = 3358 := by decide +kernel
theorem d_L_3358 : decode YL.2.1 3358 = .ok (.iload_n 3, 1) ∧ 3358 + 1 = 3359 := by decide +kernel
theorem d_L_3359 : decode YL.2.1 3359 = .ok (.iconst 1, 1) ∧ 3359 + 1 = 3360 := by decide +kernel
theorem d_L_3360 : decode YL.2.1 3360 = .ok (.iadd, 1) ∧ 3360 + 1 = 3361 := by decide +kernel
theorem d_L_3361 : decode YL.2.1 3361 = .ok (.iaload, 1) ∧ 3361 + 1 = 3362 := by decide +kernel
theorem d_L_3362 : decode YL.2.1 3362 = .ok (.aload_n 0, 1) ∧ 3362 + 1 = 3363 := by decide +kernel
theorem d_L_3363 : decode YL.2.1 3363 = .ok (.iload_n 3, 1) ∧ 3363 + 1 = 3364 := by decide +kernel
theorem d_L_3364 : decode YL.2.1 3364 = .ok (.iconst 2, 1) ∧ 3364 + 1 = 3365 := by decide +kernel
theorem d_L_3365 : decode YL.2.1 3365 = .ok (.iadd, 1) ∧ 3365 + 1 = 3366 := by decide +kernel
theorem d_L_3366 : decode YL.2.1 3366 = .ok (.iaload, 1) ∧ 3366 + 1 = 3367 := by decide +kernel
theorem d_L_3367 : decode YL.2.1 3367 = .ok (.aload_n 0, 1) ∧ 3367 + 1 = 3368 := by decide +kernel
theorem d_L_3368 : decode YL.2.1 3368 = .ok (.iload_n 3, 1) ∧ 3368 + 1 = 3369 := by decide +kernel
theorem d_L_3369 : decode YL.2.1 3369 = .ok (.iconst 3, 1) ∧ 3369 + 1 = 3370 := by decide +kernel
theorem d_L_3370 : decode YL.2.1 3370 = .ok (.iadd, 1) ∧ 3370 + 1 = 3371 := by decide +kernel
theorem d_L_3371 : decode YL.2.1 3371 = .ok (.iaload, 1) ∧ 3371 + 1 = 3372 := by decide +kernel
theorem d_L_3372 : decode YL.2.1 3372 = .ok (.invokevirtual 351, 3) ∧ 3372 + 3 = 3375 := by decide +kernel
theorem d_L_3375 : decode YL.2.1 3375 = .ok (.if_icmp .eq 104, 3) ∧ ((3375 : Nat) : Int) + 104 = ((3479 : Nat) : Int) ∧ 3375 + 3 = 3378 := by decide +kernel
theorem d_L_3378 : decode YL.2.1 3378 = .ok (.iconst 0, 1) ∧ 3378 + 1 = 3379 := by decide +kernel
theorem d_L_3379 : decode YL.2.1 3379 = .ok (.ireturn, 1) := by decide +kernel
theorem d_L_3380 : decode YL.2.1 3380 = .ok (.aload_n 1, 1) ∧ 3380 + 1 = 3381 := by decide +kernel
theorem d_L_3381 : decode YL.2.1 3381 = .ok (.invokevirtual 352, 3) ∧ 3381 + 3 = 3384 := by decide +kernel
theorem d_L_3384 : decode YL.2.1 3384 = .ok (.aload_n 2, 1) ∧ 3384 + 1 = 3385 := by decide +kernel
theorem d_L_3385 : decode YL.2.1 3385 = .ok (.invokevirtual 355, 3) ∧ 3385 + 3 = 3388 := by decide +kernel
theorem d_L_3388 : decode YL.2.1 3388 = .ok (.if_icmp .eq 91, 3) ∧ ((3388 : Nat) : Int) + 91 = ((3479 : Nat) : Int) ∧ 3388 + 3 = 3391 := by decide +kernel
theorem d_L_3391 : decode YL.2.1 3391 = .ok (.iconst 0, 1) ∧ 3391 + 1 = 3392 := by decide +kernel
theorem d_L_3392 : decode YL.2.1 3392 = .ok (.ireturn, 1) := by decide +kernel
theorem d_L_3393 : decode YL.2.1 3393 = .ok (.aload_n 1, 1) ∧ 3393 + 1 = 3394 := by decide +kernel
theorem d_L_3394 : decode YL.2.1 3394 = .ok (.aload_n 0, 1) ∧ 3394 + 1 = 3395 := by decide +kernel
theorem d_L_3395 : decode YL.2.1 3395 = .ok (.iload_n 3, 1) ∧ 3395 + 1 = 3396 := by decide +kernel
theorem d_L_3396 : decode YL.2.1 3396 = .ok (.iconst 1, 1) ∧ 3396 + 1 = 3397 := by decide +kernel
theorem d_L_3397 : decode YL.2.1 3397 = .ok (.iadd, 1) ∧ 3397 + 1 = 3398 := by decide +kernel
theorem d_L_3398 : decode YL.2.1 3398 = .ok (.iaload, 1) ∧ 3398 + 1 = 3399 := by decide +kernel
theorem d_L_3399 : decode YL.2.1 3399 = .ok (.aload_n 0, 1) ∧ 3399 + 1 = 3400 := by decide +kernel
theorem d_L_3400 : decode YL.2.1 3400 = .ok (.iload_n 3, 1) ∧ 3400 + 1 = 3401 := by decide +kernel
theorem d_L_3401 : decode YL.2.1 3401 = .ok (.iconst 2, 1) ∧ 3401 + 1 = 3402 := by decide +kernel
theorem d_L_3402 : decode YL.2.1 3402 = .ok (.iadd, 1) ∧ 3402 + 1 = 3403 := by decide +kernel
theorem d_L_3403 : decode YL.2.1 3403 = .ok (.iaload, 1) ∧ 3403 + 1 = 3404 := by decide +kernel
theorem d_L_3404 : decode YL.2.1 3404 = .ok (.invokevirtual 356, 3) ∧ 3404 + 3 = 3407 := by decide +kernel
theorem d_L_3407 : decode YL.2.1 3407 = .ok (.aload_n 2, 1) ∧ 3407 + 1 = 3408 := by decide +kernel
theorem d_L_3408 : decode YL.2.1 3408 = .ok (.aload_n 0, 1) ∧ 3408 + 1 = 3409 := by decide +kernel
theorem d_L_3409 : decode YL.2.1 3409 = .ok (.iload_n 3, 1) ∧ 3409 + 1 = 3410 := by decide +kernel
theorem d_L_3410 : decode YL.2.1 3410 = .ok (.iconst 1, 1) ∧ 3410 + 1 = 3411 := by decide +kernel
theorem d_L_3411 : decode YL.2.1 3411 = .ok (.iadd, 1) ∧ 3411 + 1 = 3412 := by decide +kernel
theorem d_L_3412 : decode YL.2.1 3412 = .ok (.iaload, 1) ∧ 3412 + 1 = 3413 := by decide +kernel
theorem d_L_3413 : decode YL.2.1 3413 = .ok (.aload_n 0, 1) ∧ 3413 + 1 = 3414 := by decide +kernel
theorem d_L_3414 : decode YL.2.1 3414 = .ok (.iload_n 3, 1) ∧ 3414 + 1 = 3415 := by decide +kernel
theorem d_L_3415 : decode YL.2.1 3415 = .ok (.iconst 2, 1) ∧ 3415 + 1 = 3416 := by decide +kernel
theorem d_L_3416 : decode YL.2.1 3416 = .ok (.iadd, 1) ∧ 3416 + 1 = 3417 := by decide +kernel
theorem d_L_3417 : decode YL.2.1 3417 = .ok (.iaload, 1) ∧ 3417 + 1 = 3418 := by decide +kernel
theorem d_L_3418 : decode YL.2.1 3418 = .ok (.invokevirtual 359, 3) ∧ 3418 + 3 = 3421 := by decide +kernel
theorem d_L_3421 : decode YL.2.1 3421 = .ok (.if_icmp .eq 58, 3) ∧ ((3421 : Nat) : Int) + 58 = ((3479 : Nat) : Int) ∧ 3421 + 3 = 3424 := by decide +kernel
theorem d_L_3424 : decode YL.2.1 3424 = .ok (.iconst 0, 1) ∧ 3424 + 1 = 3425 := by decide +kernel
theorem d_L_3425 : decode YL.2.1 3425 = .ok (.ireturn, 1) := by decide +kernel
theorem d_L_3426 : decode YL.2.1 3426 = .ok (.aload_n 1, 1) ∧ 3426 + 1 = 3427 := by decide +kernel
theorem d_L_3427 : decode YL.2.1 3427 = .ok (.aload_n 0, 1) ∧ 3427 + 1 = 3428 := by decide +kernel
theorem d_L_3428 : decode YL.2.1 3428 = .ok (.iload_n 3, 1) ∧ 3428 + 1 = 3429 := by decide +kernel
theorem d_L_3429 : decode YL.2.1 3429 = .ok (.iconst 1, 1) ∧ 3429 + 1 = 3430 := by decide +kernel
theorem d_L_3430 : decode YL.2.1 3430 = .ok (.iadd, 1) ∧ 3430 + 1 = 3431 := by decide +kernel
theorem d_L_3431 : decode YL.2.1 3431 = .ok (.iaload, 1) ∧ 3431 + 1 = 3432 := by decide +kernel
theorem d_L_3432 : decode YL.2.1 3432 = .ok (.aload_n 0, 1) ∧ 3432 + 1 = 3433 := by decide +kernel
theorem d_L_3433 : decode YL.2.1 3433 = .ok (.iload_n 3, 1) ∧ 3433 + 1 = 3434 := by decide +kernel
theorem d_L_3434 : decode YL.2.1 3434 = .ok (.iconst 2, 1) ∧ 3434 + 1 = 3435 := by decide +kernel
theorem d_L_3435 : decode YL.2.1 3435 = .ok (.iadd, 1) ∧ 3435 + 1 = 3436 := by decide +kernel
theorem d_L_3436 : decode YL.2.1 3436 = .ok (.iaload, 1) ∧ 3436 + 1 = 3437 := by decide +kernel
theorem d_L_3437 : decode YL.2.1 3437 = .ok (.aload_n 0, 1) ∧ 3437 + 1 = 3438 := by decide +kernel
theorem d_L_3438 : decode YL.2.1 3438 = .ok (.iload_n 3, 1) ∧ 3438 + 1 = 3439 := by decide +kernel
theorem d_L_3439 : decode YL.2.1 3439 = .ok (.iconst 3, 1) ∧ 3439 + 1 = 3440 := by decide +kernel
theorem d_L_3440 : decode YL.2.1 3440 = .ok (.iadd, 1) ∧ 3440 + 1 = 3441 := by decide +kernel
theorem d_L_3441 : decode YL.2.1 3441 = .ok (.iaload, 1) ∧ 3441 + 1 = 3442 := by decide +kernel
theorem d_L_3442 : decode YL.2.1 3442 = .ok (.aload_n 0, 1) ∧ 3442 + 1 = 3443 := by decide +kernel
theorem d_L_3443 : decode YL.2.1 3443 = .ok (.iload_n 3, 1) ∧ 3443 + 1 = 3444 := by decide +kernel
theorem d_L_3444 : decode YL.2.1 3444 = .ok (.iconst 4, 1) ∧ 3444 + 1 = 3445 := by decide +kernel
theorem d_L_3445 : decode YL.2.1 3445 = .ok (.iadd, 1) ∧ 3445 + 1 = 3446 := by decide +kernel
theorem d_L_3446 : decode YL.2.1 3446 = .ok (.iaload, 1) ∧ 3446 + 1 = 3447 := by decide +kernel
theorem d_L_3447 : decode YL.2.1 3447 = .ok (.invokevirtual 360, 3) ∧ 3447 + 3 = 3450 := by decide +kernel
theorem d_L_3450 : decode YL.2.1 3450 = .ok (.aload_n 2, 1) ∧ 3450 + 1 = 3451 := by decide +kernel
theorem d_L_3451 : decode YL.2.1 3451 = .ok (.aload_n 0, 1) ∧ 3451 + 1 = 3452 := by decide +kernel
theorem d_L_3452 : decode YL.2.1 3452 = .ok (.iload_n 3, 1) ∧ 3452 + 1 = 3453 := by decide +kernel
theorem d_L_3453 : decode YL.2.1 3453 = .ok (.iconst 1, 1) ∧ 3453 + 1 = 3454 := by decide +kernel
theorem d_L_3454 : decode YL.2.1 3454 = .ok (.iadd, 1) ∧ 3454 + 1 = 3455 := by decide +kernel
theorem d_L_3455 : decode YL.2.1 3455 = .ok (.iaload, 1) ∧ 3455 + 1 = 3456 := by decide +kernel
theorem d_L_3456 : decode YL.2.1 3456 = .ok (.aload_n 0, 1) ∧ 3456 + 1 = 3457 := by decide +kernel
theorem d_L_3457 : decode YL.2.1 3457 = .ok (.iload_n 3, 1) ∧ 3457 + 1 = 3458 := by decide +kernel
theorem d_L_3458 : decode YL.2.1 3458 = .ok (.iconst 2, 1) ∧ 3458 + 1 = 3459 := by decide +kernel
theorem d_L_3459 : decode YL.2.1 3459 = .ok (.iadd, 1) ∧ 3459 + 1 = 3460 := by decide +kernel
theorem d_L_3460 : decode YL.2.1 3460 = .ok (.iaload, 1) ∧ 3460 + 1 = 3461 := by decide +kernel
theorem d_L_3461 : decode YL.2.1 3461 = .ok (.aload_n 0, 1) ∧ 3461 + 1 = 3462 := by decide +kernel
theorem d_L_3462 : decode YL.2.1 3462 = .ok (.iload_n 3, 1) ∧ 3462 + 1 = 3463 := by decide +kernel
theorem d_L_3463 : decode YL.2.1 3463 = .ok (.iconst 3, 1) ∧ 3463 + 1 = 3464 := by decide +kernel
theorem d_L_3464 : decode YL.2.1 3464 = .ok (.iadd, 1) ∧ 3464 + 1 = 3465 := by decide +kernel
theorem d_L_3465 : decode YL.2.1 3465 = .ok (.iaload, 1) ∧ 3465 + 1 = 3466 := by decide +kernel
theorem d_L_3466 : decode YL.2.1 3466 = .ok (.aload_n 0, 1) ∧ 3466 + 1 = 3467 := by decide +kernel
theorem d_L_3467 : decode YL.2.1 3467 = .ok (.iload_n 3, 1) ∧ 3467 + 1 = 3468 := by decide +kernel
theorem d_L_3468 : decode YL.2.1 3468 = .ok (.iconst 4, 1) ∧ 3468 + 1 = 3469 := by decide +kernel
theorem d_L_3469 : decode YL.2.1 3469 = .ok (.iadd, 1) ∧ 3469 + 1 = 3470 := by decide +kernel
theorem d_L_3470 : decode YL.2.1 3470 = .ok (.iaload, 1) ∧ 3470 + 1 = 3471 := by decide +kernel
theorem d_L_3471 : decode YL.2.1 3471 = .ok (.invokevirtual 363, 3) ∧ 3471 + 3 = 3474 := by decide +kernel
theorem d_L_3474 : decode YL.2.1 3474 = .ok (.if_icmp .eq 5, 3) ∧ ((3474 : Nat) : Int) + 5 = ((3479 : Nat) : Int) ∧ 3474 + 3 = 3477 := by decide +kernel
theorem d_L_3477 : decode YL.2.1 3477 = .ok (.iconst 0, 1) ∧ 3477 + 1 = 3478 := by decide +kernel
theorem d_L_3478 : decode YL.2.1 3478 = .ok (.ireturn, 1) := by decide +kernel
theorem d_L_3479 : decode YL.2.1 3479 = .ok (.iinc 3 8, 3) ∧ 3479 + 3 = 3482 := by decide +kernel
theorem d_L_3482 : decode YL.2.1 3482 = .ok (.goto (-3464), 3) ∧ ((3482 : Nat) : Int) + (-3464) = ((18 : Nat) : Int) ∧ 3482 + 3 = 3485 := by decide +kernel
theorem d_L_3485 : decode YL.2.1 3485 = .ok (.iconst 1, 1) ∧ 3485 + 1 = 3486 := by decide +kernel
theorem d_L_3486 : decode YL.2.1 3486 = .ok (.ireturn, 1) := by decide +kernel
