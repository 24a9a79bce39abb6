theorem d_L_2964 : decode YL.2.1 2964 = .ok (.invokevirtual 303, 3) ∧ 2964 + 3 = 2967 := by decide +kernel
theorem d_L_2967 : decode YL.2.1 2967 = .ok (.pop2, 1) ∧ 2967 + 1 = 2968 := by decide +kernel
theorem d_L_2968 : decode YL.2.1 2968 = .ok (.goto 508, 3) ∧ ((2968 : Nat) : Int) + 508 = ((3476 : Nat) : Int) ∧ 2968 + 3 = 2971 := by decide +kernel
theorem d_L_2971 : decode YL.2.1 2971 = .ok (.aload_n 1, 1) ∧ 2971 + 1 = 2972 := by decide +kernel
theorem d_L_2972 : decode YL.2.1 2972 = .ok (.aload_n 0, 1) ∧ 2972 + 1 = 2973 := by decide +kernel
theorem d_L_2973 : decode YL.2.1 2973 = .ok (.iload_n 3, 1) ∧ 2973 + 1 = 2974 := by decide +kernel
theorem d_L_2974 : decode YL.2.1 2974 = .ok (.iconst 1, 1) ∧ 2974 + 1 = 2975 := by decide +kernel
theorem d_L_2975 : decode YL.2.1 2975 = .ok (.iadd, 1) ∧ 2975 + 1 = 2976 := by decide +kernel
theorem d_L_2976 : decode YL.2.1 2976 = .ok (.iaload, 1) ∧ 2976 + 1 = 2977 := by decide +kernel
theorem d_L_2977 : decode YL.2.1 2977 = .ok (.aload_n 0, 1) ∧ 2977 + 1 = 2978 := by decide +kernel
theorem d_L_2978 : decode YL.2.1 2978 = .ok (.iload_n 3, 1) ∧ 2978 + 1 = 2979 := by decide +kernel
theorem d_L_2979 : decode YL.2.1 2979 = .ok (.iconst 2, 1) ∧ 2979 + 1 = 2980 := by decide +kernel
theorem d_L_2980 : decode YL.2.1 2980 = .ok (.iadd, 1) ∧ 2980 + 1 = 2981 := by decide +kernel
theorem d_L_2981 : decode YL.2.1 2981 = .ok (.iaload, 1) ∧ 2981 + 1 = 2982 := by decide +kernel
theorem d_L_2982 : decode YL.2.1 2982 = .ok (.i2l, 1) ∧ 2982 + 1 = 2983 := by decide +kernel
theorem d_L_2983 : decode YL.2.1 2983 = .ok (.bipush 32, 2) ∧ 2983 + 2 = 2985 := by decide +kernel
theorem d_L_2985 : decode YL.2.1 2985 = .ok (.lshl, 1) ∧ 2985 + 1 = 2986 := by decide +kernel
theorem d_L_2986 : decode YL.2.1 2986 = .ok (.aload_n 0, 1) ∧ 2986 + 1 = 2987 := by decide +kernel
theorem d_L_2987 : decode YL.2.1 2987 = .ok (.iload_n 3, 1) ∧ 2987 + 1 = 2988 := by decide +kernel
theorem d_L_2988 : decode YL.2.1 2988 = .ok (.iconst 3, 1) ∧ 2988 + 1 = 2989 := by decide +kernel
theorem d_L_2989 : decode YL.2.1 2989 = .ok (.iadd, 1) ∧ 2989 + 1 = 2990 := by decide +kernel
theorem d_L_2990 : decode YL.2.1 2990 = .ok (.iaload, 1) ∧ 2990 + 1 = 2991 := by decide +kernel
theorem d_L_2991 : decode YL.2.1 2991 = .ok (.i2l, 1) ∧ 2991 + 1 = 2992 := by decide +kernel
theorem d_L_2992 : decode YL.2.1 2992 = .ok (.ldc2_w 13, 3) ∧ 2992 + 3 = 2995 := by decide +kernel
theorem d_L_2995 : decode YL.2.1 2995 = .ok (.land, 1) ∧ 2995 + 1 = 2996 := by decide +kernel
theorem d_L_2996 : decode YL.2.1 2996 = .ok (.lor, 1) ∧ 2996 + 1 = 2997 := by decide +kernel
theorem d_L_2997 : decode YL.2.1 2997 = .ok (.invokevirtual 304, 3) ∧ 2997 + 3 = 3000 := by decide +kernel
theorem d_L_3000 : decode YL.2.1 3000 = .ok (.pop2, 1) ∧ 3000 + 1 = 3001 := by decide +kernel
theorem d_L_3001 : decode YL.2.1 3001 = .ok (.aload_n 2, 1) ∧ 3001 + 1 = 3002 := by decide +kernel
theorem d_L_3002 : decode YL.2.1 3002 = .ok (.aload_n 0, 1) ∧ 3002 + 1 = 3003 := by decide +kernel
theorem d_L_3003 : decode YL.2.1 3003 = .ok (.iload_n 3, 1) ∧ 3003 + 1 = 3004 := by decide +kernel
theorem d_L_3004 : decode YL.2.1 3004 = .ok (.iconst 1, 1) ∧ 3004 + 1 = 3005 := by decide +kernel
theorem d_L_3005 : decode YL.2.1 3005 = .ok (.iadd, 1) ∧ 3005 + 1 = 3006 := by decide +kernel
theorem d_L_3006 : decode YL.2.1 3006 = .ok (.iaload, 1) ∧ 3006 + 1 = 3007 := by decide +kernel
theorem d_L_3007 : decode YL.2.1 3007 = .ok (.aload_n 0, 1) ∧ 3007 + 1 = 3008 := by decide +kernel
theorem d_L_3008 : decode YL.2.1 3008 = .ok (.iload_n 3, 1) ∧ 3008 + 1 = 3009 := by decide +kernel
theorem d_L_3009 : decode YL.2.1 3009 = .ok (.iconst 2, 1) ∧ 3009 + 1 = 3010 := by decide +kernel
theorem d_L_3010 : decode YL.2.1 3010 = .ok (.iadd, 1) ∧ 3010 + 1 = 3011 := by decide +kernel
theorem d_L_3011 : decode YL.2.1 3011 = .ok (.iaload, 1) ∧ 3011 + 1 = 3012 := by decide +kernel
theorem d_L_3012 : decode YL.2.1 3012 = .ok (.i2l, 1) ∧ 3012 + 1 = 3013 := by decide +kernel
theorem d_L_3013 : decode YL.2.1 3013 = .ok (.bipush 32, 2) ∧ 3013 + 2 = 3015 := by decide +kernel
theorem d_L_3015 : decode YL.2.1 3015 = .ok (.lshl, 1) ∧ 3015 + 1 = 3016 := by decide +kernel
theorem d_L_3016 : decode YL.2.1 3016 = .ok (.aload_n 0, 1) ∧ 3016 + 1 = 3017 := by decide +kernel
theorem d_L_3017 : decode YL.2.1 3017 = .ok (.iload_n 3, 1) ∧ 3017 + 1 = 3018 := by decide +kernel
theorem d_L_3018 : decode YL.2.1 3018 = .ok (.iconst 3, 1) ∧ 3018 + 1 = 3019 := by decide +kernel
theorem d_L_3019 : decode YL.2.1 3019 = .ok (.iadd, 1) ∧ 3019 + 1 = 3020 := by decide +kernel
theorem d_L_3020 : decode YL.2.1 3020 = .ok (.iaload, 1) ∧ 3020 + 1 = 3021 := by decide +kernel
theorem d_L_3021 : decode YL.2.1 3021 = .ok (.i2l, 1) ∧ 3021 + 1 = 3022 := by decide +kernel
theorem d_L_3022 : decode YL.2.1 3022 = .ok (.ldc2_w 13, 3) ∧ 3022 + 3 = 3025 := by decide +kernel
theorem d_L_3025 : decode YL.2.1 3025 = .ok (.land, 1) ∧ 3025 + 1 = 3026 := by decide +kernel
theorem d_L_3026 : decode YL.2.1 3026 = .ok (.lor, 1) ∧ 3026 + 1 = 3027 := by decide +kernel
theorem d_L_3027 : decode YL.2.1 3027 = .ok (.invokevirtual 307, 3) ∧ 3027 + 3 = 3030 := by decide +kernel
theorem d_L_3030 : decode YL.2.1 3030 = .ok (.pop2, 1) ∧ 3030 + 1 = 3031 := by decide +kernel
theorem d_L_3031 : decode YL.2.1 3031 = .ok (.goto 445, 3) ∧ ((3031 : Nat) : Int) + 445 = ((3476 : Nat) : Int) ∧ 3031 + 3 = 3034 := by decide +kernel
theorem d_L_3034 : decode YL.2.1 3034 = .ok (.aload_n 1, 1) ∧ 3034 + 1 = 3035 := by decide +kernel
theorem d_L_3035 : decode YL.2.1 3035 = .ok (.aload_n 0, 1) ∧ 3035 + 1 = 3036 := by decide +kernel
theorem d_L_3036 : decode YL.2.1 3036 = .ok (.iload_n 3, 1) ∧ 3036 + 1 = 3037 := by decide +kernel
theorem d_L_3037 : decode YL.2.1 3037 = .ok (.iconst 1, 1) ∧ 3037 + 1 = 3038 := by decide +kernel
theorem d_L_3038 : decode YL.2.1 3038 = .ok (.iadd, 1) ∧ 3038 + 1 = 3039 := by decide +kernel
theorem d_L_3039 : decode YL.2.1 3039 = .ok (.iaload, 1) ∧ 3039 + 1 = 3040 := by decide +kernel
theorem d_L_3040 : decode YL.2.1 3040 = .ok (.aload_n 0, 1) ∧ 3040 + 1 = 3041 := by decide +kernel
theorem d_L_3041 : decode YL.2.1 3041 = .ok (.iload_n 3, 1) ∧ 3041 + 1 = 3042 := by decide +kernel
theorem d_L_3042 : decode YL.2.1 3042 = .ok (.iconst 2, 1) ∧ 3042 + 1 = 3043 := by decide +kernel
theorem d_L_3043 : decode YL.2.1 3043 = .ok (.iadd, 1) ∧ 3043 + 1 = 3044 := by decide +kernel
theorem d_L_3044 : decode YL.2.1 3044 = .ok (.iaload, 1) ∧ 3044 + 1 = 3045 := by decide +kernel
theorem d_L_3045 : decode YL.2.1 3045 = .ok (.invokevirtual 308, 3) ∧ 3045 + 3 = 3048 := by decide +kernel
theorem d_L_3048 : decode YL.2.1 3048 = .ok (.pop, 1) ∧ 3048 + 1 = 3049 := by decide +kernel
theorem d_L_3049 : decode YL.2.1 3049 = .ok (.aload_n 2, 1) ∧ 3049 + 1 = 3050 := by decide +kernel
theorem d_L_3050 : decode YL.2.1 3050 = .ok (.aload_n 0, 1) ∧ 3050 + 1 = 3051 := by decide +kernel
theorem d_L_3051 : decode YL.2.1 3051 = .ok (.iload_n 3, 1) ∧ 3051 + 1 = 3052 := by decide +kernel
theorem d_L_3052 : decode YL.2.1 3052 = .ok (.iconst 1, 1) ∧ 3052 + 1 = 3053 := by decide +kernel
theorem d_L_3053 : decode YL.2.1 3053 = .ok (.iadd, 1) ∧ 3053 + 1 = 3054 := by decide +kernel
theorem d_L_3054 : decode YL.2.1 3054 = .ok (.iaload, 1) ∧ 3054 + 1 = 3055 := by decide +kernel
theorem d_L_3055 : decode YL.2.1 3055 = .ok (.aload_n 0, 1) ∧ 3055 + 1 = 3056 := by decide +kernel
theorem d_L_3056 : decode YL.2.1 3056 = .ok (.iload_n 3, 1) ∧ 3056 + 1 = 3057 := by decide +kernel
theorem d_L_3057 : decode YL.2.1 3057 = .ok (.iconst 2, 1) ∧ 3057 + 1 = 3058 := by decide +kernel
theorem d_L_3058 : decode YL.2.1 3058 = .ok (.iadd, 1) ∧ 3058 + 1 = 3059 := by decide +kernel
theorem d_L_3059 : decode YL.2.1 3059 = .ok (.iaload, 1) ∧ 3059 + 1 = 3060 := by decide +kernel
theorem d_L_3060 : decode YL.2.1 3060 = .ok (.invokevirtual 311, 3) ∧ 3060 + 3 = 3063 := by decide +kernel
theorem d_L_3063 : decode YL.2.1 3063 = .ok (.pop, 1) ∧ 3063 + 1 = 3064 := by decide +kernel
theorem d_L_3064 : decode YL.2.1 3064 = .ok (.goto 412, 3) ∧ ((3064 : Nat) : Int) + 412 = ((3476 : Nat) : Int) ∧ 3064 + 3 = 3067 := by decide +kernel
theorem d_L_3067 : decode YL.2.1 3067 = .ok (.aload_n 1, 1) ∧ 3067 + 1 = 3068 := by decide +kernel
theorem d_L_3068 : decode YL.2.1 3068 = .ok (.aload_n 0, 1) ∧ 3068 + 1 = 3069 := by decide +kernel
theorem d_L_3069 : decode YL.2.1 3069 = .ok (.iload_n 3, 1) ∧ 3069 + 1 = 3070 := by decide +kernel
theorem d_L_3070 : decode YL.2.1 3070 = .ok (.iconst 1, 1) ∧ 3070 + 1 = 3071 := by decide +kernel
theorem d_L_3071 : decode YL.2.1 3071 = .ok (.iadd, 1) ∧ 3071 + 1 = 3072 := by decide +kernel
theorem d_L_3072 : decode YL.2.1 3072 = .ok (.iaload, 1) ∧ 3072 + 1 = 3073 := by decide +kernel
theorem d_L_3073 : decode YL.2.1 3073 = .ok (.aload_n 0, 1) ∧ 3073 + 1 = 3074 := by decide +kernel
theorem d_L_3074 : decode YL.2.1 3074 = .ok (.iload_n 3, 1) ∧ 3074 + 1 = 3075 := by decide +kernel
theorem d_L_3075 : decode YL.2.1 3075 = .ok (.iconst 2, 1) ∧ 3075 + 1 = 3076 := by decide +kernel
theorem d_L_3076 : decode YL.2.1 3076 = .ok (.iadd, 1) ∧ 3076 + 1 = 3077 := by decide +kernel
theorem d_L_3077 : decode YL.2.1 3077 = .ok (.iaload, 1) ∧ 3077 + 1 = 3078 := by decide +kernel
theorem d_L_3078 : decode YL.2.1 3078 = .ok (.invokevirtual 312, 3) ∧ 3078 + 3 = 3081 := by decide +kernel
theorem d_L_3081 : decode YL.2.1 3081 = .ok (.pop, 1) ∧ 3081 + 1 = 3082 := by decide +kernel
theorem d_L_3082 : decode YL.2.1 3082 = .ok (.aload_n 2, 1) ∧ 3082 + 1 = 3083 := by decide +kernel
theorem d_L_3083 : decode YL.2.1 3083 = .ok (.aload_n 0, 1) ∧ 3083 + 1 = 3084 := by decide +kernel
theorem d_L_3084 : decode YL.2.1 3084 = .ok (.iload_n 3, 1) ∧ 3084 + 1 = 3085 := by decide +kernel
theorem d_L_3085 : decode YL.2.1 3085 = .ok (.iconst 1, 1) ∧ 3085 + 1 = 3086 := by decide +kernel
theorem d_L_3086 : decode YL.2.1 3086 = .ok (.iadd, 1) ∧ 3086 + 1 = 3087 := by decide +kernel
theorem d_L_3087 : decode YL.2.1 3087 = .ok (.iaload, 1) ∧ 3087 + 1 = 3088 := by decide +kernel
theorem d_L_3088 : decode YL.2.1 3088 = .ok (.aload_n 0, 1) ∧ 3088 + 1 = 3089 := by decide +kernel
theorem d_L_3089 : decode YL.2.1 3089 = .ok (.iload_n 3, 1) ∧ 3089 + 1 = 3090 := by decide +kernel
theorem d_L_3090 : decode YL.2.1 3090 = .ok (.iconst 2, 1) ∧ 3090 + 1 = 3091 := by decide +kernel
theorem d_L_3091 : decode YL.2.1 3091 = .ok (.iadd, 1) ∧ 3091 + 1 = 3092 := by decide +kernel
theorem d_L_3092 : decode YL.2.1 3092 = .ok (.iaload, 1) ∧ 3092 + 1 = 3093 := by decide +kernel
theorem d_L_3093 : decode YL.2.1 3093 = .ok (.invokevirtual 315, 3) ∧ 3093 + 3 = 3096 := by decide +kernel
theorem d_L_3096 : decode YL.2.1 3096 = .ok (.pop, 1) ∧ 3096 + 1 = 3097 := by decide +kernel
theorem d_L_3097 : decode YL.2.1 3097 = .ok (.goto 379, 3) ∧ ((3097 : Nat) : Int) + 379 = ((3476 : Nat) : Int) ∧ 3097 + 3 = 3100 := by decide +kernel
theorem d_L_3100 : decode YL.2.1 3100 = .ok (.aload_n 1, 1) ∧ 3100 + 1 = 3101 := by decide +kernel
theorem d_L_3101 : decode YL.2.1 3101 = .ok (.aload_n 0, 1) ∧ 3101 + 1 = 3102 := by decide +kernel
theorem d_L_3102 : decode YL.2.1 3102 = .ok (.iload_n 3, 1) ∧ 3102 + 1 = 3103 := by decide +kernel
theorem d_L_3103 : decode YL.2.1 3103 = .ok (.iconst 1, 1) ∧ 3103 + 1 = 3104 := by decide +kernel
theorem d_L_3104 : decode YL.2.1 3104 = .ok (.iadd, 1) ∧ 3104 + 1 = 3105 := by decide +kernel
theorem d_L_3105 : decode YL.2.1 3105 = .ok (.iaload, 1) ∧ 3105 + 1 = 3106 := by decide +kernel
theorem d_L_3106 : decode YL.2.1 3106 = .ok (.invokevirtual 316, 3) ∧ 3106 + 3 = 3109 := by decide +kernel
theorem d_L_3109 : decode YL.2.1 3109 = .ok (.pop, 1) ∧ 3109 + 1 = 3110 := by decide +kernel
theorem d_L_3110 : decode YL.2.1 3110 = .ok (.aload_n 2, 1) ∧ 3110 + 1 = 3111 := by decide +kernel
theorem d_L_3111 : decode YL.2.1 3111 = .ok (.aload_n 0, 1) ∧ 3111 + 1 = 3112 := by decide +kernel
theorem d_L_3112 : decode YL.2.1 3112 = .ok (.iload_n 3, 1) ∧ 3112 + 1 = 3113 := by decide +kernel
theorem d_L_3113 : decode YL.2.1 3113 = .ok (.iconst 1, 1) ∧ 3113 + 1 = 3114 := by decide +kernel
theorem d_L_3114 : decode YL.2.1 3114 = .ok (.iadd, 1) ∧ 3114 + 1 = 3115 := by decide +kernel
theorem d_L_3115 : decode YL.2.1 3115 = .ok (.iaload, 1) ∧ 3115 + 1 = 3116 := by decide +kernel
theorem d_L_3116 : decode YL.2.1 3116 = .ok (.invokevirtual 319, 3) ∧ 3116 + 3 = 3119 := by decide +kernel
theorem d_L_3119 : decode YL.2.1 3119 = .ok (.pop, 1) ∧ 3119 + 1 = 3120 := by decide +kernel
theorem d_L_3120 : decode YL.2.1 3120 = .ok (.goto 356, 3) ∧ ((3120 : Nat) : Int) + 356 = ((3476 : Nat) : Int) ∧ 3120 + 3 = 3123 := by decide +kernel
theorem d_L_3123 : decode YL.2.1 3123 = .ok (.aload_n 1, 1) ∧ 3123 + 1 = 3124 := by decide +kernel
theorem d_L_3124 : decode YL.2.1 3124 = .ok (.aload_n 0, 1) ∧ 3124 + 1 = 3125 := by decide +kernel
theorem d_L_3125 : decode YL.2.1 3125 = .ok (.iload_n 3, 1) ∧ 3125 + 1 = 3126 := by decide +kernel
theorem d_L_3126 : decode YL.2.1 3126 = .ok (.iconst 1, 1) ∧ 3126 + 1 = 3127 := by decide +kernel
theorem d_L_3127 : decode YL.2.1 3127 = .ok (.iadd, 1) ∧ 3127 + 1 = 3128 := by decide +kernel
theorem d_L_3128 : decode YL.2.1 3128 = .ok (.iaload, 1) ∧ 3128 + 1 = 3129 := by decide +kernel
theorem d_L_3129 : decode YL.2.1 3129 = .ok (.invokevirtual 320, 3) ∧ 3129 + 3 = 3132 := by decide +kernel
theorem d_L_3132 : decode YL.2.1 3132 = .ok (.pop, 1) ∧ 3132 + 1 = 3133 := by decide +kernel
theorem d_L_3133 : decode YL.2.1 3133 = .ok (.aload_n 2, 1) ∧ 3133 + 1 = 3134 := by decide +kernel
theorem d_L_3134 : decode YL.2.1 3134 = .ok (.aload_n 0, 1) ∧ 3134 + 1 = 3135 := by decide +kernel
theorem d_L_3135 : decode YL.2.1 3135 = .ok (.iload_n 3, 1) ∧ 3135 + 1 = 3136 := by decide +kernel
theorem d_L_3136 : decode YL.2.1 3136 = .ok (.iconst 1, 1) ∧ 3136 + 1 = 3137 := by decide +kernel
theorem d_L_3137 : decode YL.2.1 3137 = .ok (.iadd, 1) ∧ 3137 + 1 = 3138 := by decide +kernel
theorem d_L_3138 : decode YL.2.1 3138 = .ok (.iaload, 1) ∧ 3138 + 1 = 3139 := by decide +kernel
theorem d_L_3139 : decode YL.2.1 3139 = .ok (.invokevirtual 323, 3) ∧ 3139 + 3 = 3142 := by decide +kernel
theorem d_L_3142 : decode YL.2.1 3142 = .ok (.pop, 1) ∧ 3142 + 1 = 3143 := by decide +kernel
theorem d_L_3143 : decode YL.2.1 3143 = .ok (.goto 333, 3) ∧ ((3143 : Nat) : Int) + 333 = ((3476 : Nat) : Int) ∧ 3143 + 3 = 3146 := by decide +kernel
theorem d_L_3146 : decode YL.2.1 3146 = .ok (.aload_n 1, 1) ∧ 3146 + 1 = 3147 := by decide +kernel
theorem d_L_3147 : decode YL.2.1 3147 = .ok (.aload_n 0, 1) ∧ 3147 + 1 = 3148 := by decide +kernel
theorem d_L_3148 : decode YL.2.1 3148 = .ok (.iload_n 3, 1) ∧ 3148 + 1 = 3149 := by decide +kernel
theorem d_L_3149 : decode YL.2.1 3149 = .ok (.iconst 1, 1) ∧ 3149 + 1 = 3150 := by decide +kernel
theorem d_L_3150 : decode YL.2.1 3150 = .ok (.iadd, 1) ∧ 3150 + 1 = 3151 := by decide +kernel
theorem d_L_3151 : decode YL.2.1 3151 = .ok (.iaload, 1) ∧ 3151 + 1 = 3152 := by decide +kernel
theorem d_L_3152 : decode YL.2.1 3152 = .ok (.aload_n 0, 1) ∧ 3152 + 1 = 3153 := by decide +kernel
theorem d_L_3153 : decode YL.2.1 3153 = .ok (.iload_n 3, 1) ∧ 3153 + 1 = 3154 := by decide +kernel
theorem d_L_3154 : decode YL.2.1 3154 = .ok (.iconst 2, 1) ∧ 3154 + 1 = 3155 := by decide +kernel
theorem d_L_3155 : decode YL.2.1 3155 = .ok (.iadd, 1) ∧ 3155 + 1 = 3156 := by decide +kernel
theorem d_L_3156 : decode YL.2.1 3156 = .ok (.iaload, 1) ∧ 3156 + 1 = 3157 := by decide +kernel
theorem d_L_3157 : decode YL.2.1 3157 = .ok (.aload_n 0, 1) ∧ 3157 + 1 = 3158 := by decide +kernel
theorem d_L_3158 : decode YL.2.1 3158 = .ok (.iload_n 3, 1) ∧ 3158 + 1 = 3159 := by decide +kernel
theorem d_L_3159 : decode YL.2.1 3159 = .ok (.iconst 3, 1) ∧ 3159 + 1 = 3160 := by decide +kernel
theorem d_L_3160 : decode YL.2.1 3160 = .ok (.iadd, 1) ∧ 3160 + 1 = 3161 := by decide +kernel
theorem d_L_3161 : decode YL.2.1 3161 = .ok (.iaload, 1) ∧ 3161 + 1 = 3162 := by decide +kernel
theorem d_L_3162 : decode YL.2.1 3162 = .ok (.aload_n 0, 1) ∧ 3162 + 1 = 3163 := by decide +kernel
theorem d_L_3163 : decode YL.2.1 3163 = .ok (.iload_n 3, 1) ∧ 3163 + 1 = 3164 := by decide +kernel
theorem d_L_3164 : decode YL.2.1 3164 = .ok (.iconst 4, 1) ∧ 3164 + 1 = 3165 := by decide +kernel
theorem d_L_3165 : decode YL.2.1 3165 = .ok (.iadd, 1) ∧ 3165 + 1 = 3166 := by decide +kernel
theorem d_L_3166 : decode YL.2.1 3166 = .ok (.iaload, 1) ∧ 3166 + 1 = 3167 := by decide +kernel
theorem d_L_3167 : decode YL.2.1 3167 = .ok (.invokevirtual 324, 3) ∧ 3167 + 3 = 3170 := by decide +kernel
theorem d_L_3170 : decode YL.2.1 3170 = .ok (.pop, 1) ∧ 3170 + 1 = 3171 := by decide +kernel
theorem d_L_3171 : decode YL.2.1 3171 = .ok (.aload_n 2, 1) ∧ 3171 + 1 = 3172 := by decide +kernel
theorem d_L_3172 : decode YL.2.1 3172 = .ok (.aload_n 0, 1) ∧ 3172 + 1 = 3173 := by decide +kernel
theorem d_L_3173 : decode YL.2.1 3173 = .ok (.iload_n 3, 1) ∧ 3173 + 1 = 3174 := by decide +kernel
theorem d_L_3174 : decode YL.2.1 3174 = .ok (.iconst 1, 1) ∧ 3174 + 1 = 3175 := by decide +kernel
theorem d_L_3175 : decode YL.2.1 3175 = .ok (.iadd, 1) ∧ 3175 + 1 = 3176 := by decide +kernel
theorem d_L_3176 : decode YL.2.1 3176 = .ok (.iaload, 1) ∧ 3176 + 1 = 3177 := by decide +kernel
theorem d_L_3177 : decode YL.2.1 3177 = .ok (.aload_n 0, 1) ∧ 3177 + 1 = 3178 := by decide +kernel
theorem d_L_3178 : decode YL.2.1 3178 = .ok (.iload_n 3, 1) ∧ 3178 + 1 = 3179 := by decide +kernel
theorem d_L_3179 : decode YL.2.1 3179 = .ok (.iconst 2, 1) ∧ 3179 + 1 = 3180 := by decide +kernel
theorem d_L_3180 : decode YL.2.1 3180 = .ok (.iadd, 1) ∧ 3180 + 1 = 3181 := by decide +kernel
theorem d_L_3181 : decode YL.2.1 3181 = .ok (.iaload, 1) ∧ 3181 + 1 = 3182 := by decide +kernel
theorem d_L_3182 : decode YL.2.1 3182 = .ok (.aload_n 0, 1) ∧ 3182 + 1 = 3183 := by decide +kernel
theorem d_L_3183 : decode YL.2.1 3183 = .ok (.iload_n 3, 1) ∧ 3183 + 1 = 3184 := by decide +kernel
theorem d_L_3184 : decode YL.2.1 3184 = .ok (.iconst 3, 1) ∧ 3184 + 1 = 3185 := by decide +kernel
theorem d_L_3185 : decode YL.2.1 3185 = .ok (.iadd, 1) ∧ 3185 + 1 = 3186 := by decide +kernel
theorem d_L_3186 : decode YL.2.1 3186 = .ok (.iaload, 1) ∧ 3186 + 1 = 3187 := by decide +kernel
theorem d_L_3187 : decode YL.2.1 3187 = .ok (.aload_n 0, 1) ∧ 3187 + 1 = 3188 := by decide +kernel
theorem d_L_3188 : decode YL.2.1 3188 = .ok (.iload_n 3, 1) ∧ 3188 + 1 = 3189 := by decide +kernel
theorem d_L_3189 : decode YL.2.1 3189 = .ok (.iconst 4, 1) ∧ 3189 + 1 = 3190 := by decide +kernel
theorem d_L_3190 : decode YL.2.1 3190 = .ok (.iadd, 1) ∧ 3190 + 1 = 3191 := by decide +kernel
theorem d_L_3191 : decode YL.2.1 3191 = .ok (.iaload, 1) ∧ 3191 + 1 = 3192 := by decide +kernel
theorem d_L_3192 : decode YL.2.1 3192 = .ok (.invokevirtual 327, 3) ∧ 3192 + 3 = 3195 := by decide +kernel
theorem d_L_3195 : decode YL.2.1 3195 = .ok (.pop, 1) ∧ 3195 + 1 = 3196 := by decide +kernel
theorem d_L_3196 : decode YL.2.1 3196 = .ok (.goto 280, 3) ∧ ((3196 : Nat) : Int) + 280 = ((3476 : Nat) : Int) ∧ 3196 + 3 = 3199 := by decide +kernel
theorem d_L_3199 : decode YL.2.1 3199 = .ok (.aload_n 1, 1) ∧ 3199 + 1 = 3200 := by decide +kernel
theorem d_L_3200 : decode YL.2.1 3200 = .ok (.aload_n 0, 1) ∧ 3200 + 1 = 3201 := by decide +kernel
theorem d_L_3201 : decode YL.2.1 3201 = .ok (.iload_n 3, 1) ∧ 3201 + 1 = 3202 := by decide +kernel
theorem d_L_3202 : decode YL.2.1 3202 = .ok (.iconst 1, 1) ∧ 3202 + 1 = 3203 := by decide +kernel
theorem d_L_3203 : decode YL.2.1 3203 = .ok (.iadd, 1) ∧ 3203 + 1 = 3204 := by decide +kernel
theorem d_L_3204 : decode YL.2.1 3204 = .ok (.iaload, 1) ∧ 3204 + 1 = 3205 := by decide +kernel
theorem d_L_3205 : decode YL.2.1 3205 = .ok (.aload_n 0, 1) ∧ 3205 + 1 = 3206 := by decide +kernel
theorem d_L_3206 : decode YL.2.1 3206 = .ok (.iload_n 3, 1) ∧ 3206 + 1 = 3207 := by decide +kernel
theorem d_L_3207 : decode YL.2.1 3207 = .ok (.iconst 2, 1) ∧ 3207 + 1 = 3208 := by decide +kernel
theorem d_L_3208 : decode YL.2.1 3208 = .ok (.iadd, 1) ∧ 3208 + 1 = 3209 := by decide +kernel
theorem d_L_3209 : decode YL.2.1 3209 = .ok (.iaload, 1) ∧ 3209 + 1 = 3210 := by decide +kernel
theorem d_L_3210 : decode YL.2.1 3210 = .ok (.invokevirtual 328, 3) ∧ 3210 + 3 = 3213 := by decide +kernel
theorem d_L_3213 : decode YL.2.1 3213 = .ok (.pop, 1) ∧ 3213 + 1 = 3214 := by decide +kernel
theorem d_L_3214 : decode YL.2.1 3214 = .ok (.aload_n 2, 1) ∧ 3214 + 1 = 3215 := by decide +kernel
theorem d_L_3215 : decode YL.2.1 3215 = .ok (.aload_n 0, 1) ∧ 3215 + 1 = 3216 := by decide +kernel
theorem d_L_3216 : decode YL.2.1 3216 = .ok (.iload_n 3, 1) ∧ 3216 + 1 = 3217 := by decide +kernel
theorem d_L_3217 : decode YL.2.1 3217 = .ok (.iconst 1, 1) ∧ 3217 + 1 = 3218 := by decide +kernel
theorem d_L_3218 : decode YL.2.1 3218 = .ok (.iadd, 1) ∧ 3218 + 1 = 3219 := by decide +kernel
theorem d_L_3219 : decode YL.2.1 3219 = .ok (.iaload, 1) ∧ 3219 + 1 = 3220 := by decide +kernel
theorem d_L_3220 : decode YL.2.1 3220 = .ok (.aload_n 0, 1) ∧ 3220 + 1 = 3221 := by decide +kernel
theorem d_L_3221 : decode YL.2.1 3221 = .ok (.iload_n 3, 1) ∧ 3221 + 1 = 3222 := by decide +kernel
theorem d_L_3222 : decode YL.2.1 3222 = .ok (.iconst 2, 1) ∧ 3222 + 1 = 3223 := by decide +kernel
theorem d_L_3223 : decode YL.2.1 3223 = .ok (.iadd, 1) ∧ 3223 + 1 = 3224 := by decide +kernel
theorem d_L_3224 : decode YL.2.1 3224 = .ok (.iaload, 1) ∧ 3224 + 1 = 3225 := by decide +kernel
theorem d_L_3225 : decode YL.2.1 3225 = .ok (.invokevirtual 331, 3) ∧ 3225 + 3 = 3228 := by decide +kernel
theorem d_L_3228 : decode YL.2.1 3228 = .ok (.pop, 1) ∧ 3228 + 1 = 3229 := by decide +kernel
theorem d_L_3229 : decode YL.2.1 3229 = .ok (.goto 247, 3) ∧ ((3229 : Nat) : Int) + 247 = ((3476 : Nat) : Int) ∧ 3229 + 3 = 3232 := by decide +kernel
theorem d_L_3232 : decode YL.2.1 3232 = .ok (.aload_n 1, 1) ∧ 3232 + 1 = 3233 := by decide +kernel
theorem d_L_3233 : decode YL.2.1 3233 = .ok (.aload_n 0, 1) ∧ 3233 + 1 = 3234 := by decide +kernel
theorem d_L_3234 : decode YL.2.1 3234 = .ok (.iload_n 3, 1) ∧ 3234 + 1 = 3235 := by decide +kernel
theorem d_L_3235 : decode YL.2.1 3235 = .ok (.iconst 1, 1) ∧ 3235 + 1 = 3236 := by decide +kernel
theorem d_L_3236 : decode YL.2.1 3236 = .ok (.iadd, 1) ∧ 3236 + 1 = 3237 := by decide +kernel
theorem d_L_3237 : decode YL.2.1 3237 = .ok (.iaload, 1) ∧ 3237 + 1 = 3238 := by decide +kernel
theorem d_L_3238 : decode YL.2.1 3238 = .ok (.invokevirtual 332, 3) ∧ 3238 + 3 = 3241 := by decide +kernel
theorem d_L_3241 : decode YL.2.1 3241 = .ok (.pop, 1) ∧ 3241 + 1 = 3242 := by decide +kernel
theorem d_L_3242 : decode YL.2.1 3242 = .ok (.aload_n 2, 1) ∧ 3242 + 1 = 3243 := by decide +kernel
theorem d_L_3243 : decode YL.2.1 3243 = .ok (.aload_n 0, 1) ∧ 3243 + 1 = 3244 := by decide +kernel
theorem d_L_3244 : decode YL.2.1 3244 = .ok (.iload_n 3, 1) ∧ 3244 + 1 = 3245 := by decide +kernel
theorem d_L_3245 : decode YL.2.1 3245 = .ok (.iconst 1, 1) ∧ 3245 + 1 = 3246 := by decide +kernel
theorem d_L_3246 : decode YL.2.1 3246 = .ok (.iadd, 1) ∧ 3246 + 1 = 3247 := by decide +kernel
theorem d_L_3247 : decode YL.2.1 3247 = .ok (.iaload, 1) ∧ 3247 + 1 = 3248 := by decide +kernel
theorem d_L_3248 : decode YL.2.1 3248 = .ok (.invokevirtual 335, 3) ∧ 3248 + 3 = 3251 := by decide +kernel
theorem d_L_3251 : decode YL.2.1 3251 = .ok (.pop, 1) ∧ 3251 + 1 = 3252 := by decide +kernel
theorem d_L_3252 : decode YL.2.1 3252 = .ok (.goto 224, 3) ∧ ((3252 : Nat) : Int) + 224 = ((3476 : Nat) : Int) ∧ 3252 + 3 = 3255 := by decide +kernel
theorem d_L_3255 : decode YL.2.1 3255 = .ok (.aload_n 1, 1) ∧ 3255 + 1 = 3256 := by decide +kernel
theorem d_L_3256 : decode YL.2.1 3256 = .ok (.aload_n 0, 1) ∧ 3256 + 1 = 3257 := by decide +kernel
theorem d_L_3257 : decode YL.2.1 3257 = .ok (.iload_n 3, 1) ∧ 3257 + 1 = 3258 := by decide +kernel
theorem d_L_3258 : decode YL.2.1 3258 = .ok (.iconst 1, 1) ∧ 3258 + 1 = 3259 := by decide +kernel
theorem d_L_3259 : decode YL.2.1 3259 = .ok (.iadd, 1) ∧ 3259 + 1 = 3260 := by decide +kernel
theorem d_L_3260 : decode YL.2.1 3260 = .ok (.iaload, 1) ∧ 3260 + 1 = 3261 := by decide +kernel
theorem d_L_3261 : decode YL.2.1 3261 = .ok (.aload_n 0, 1) ∧ 3261 + 1 = 3262 := by decide +kernel
theorem d_L_3262 : decode YL.2.1 3262 = .ok (.iload_n 3, 1) ∧ 3262 + 1 = 3263 := by decide +kernel
theorem d_L_3263 : decode YL.2.1 3263 = .ok (.iconst 2, 1) ∧ 3263 + 1 = 3264 := by decide +kernel
theorem d_L_3264 : decode YL.2.1 3264 = .ok (.iadd, 1) ∧ 3264 + 1 = 3265 := by decide +kernel
theorem d_L_3265 : decode YL.2.1 3265 = .ok (.iaload, 1) ∧ 3265 + 1 = 3266 := by decide +kernel
theorem d_L_3266 : decode YL.2.1 3266 = .ok (.invokevirtual 336, 3) ∧ 3266 + 3 = 3269 := by decide +kernel
theorem d_L_3269 : decode YL.2.1 3269 = .ok (.pop, 1) ∧ 3269 + 1 = 3270 := by decide +kernel
theorem d_L_3270 : decode YL.2.1 3270 = .ok (.aload_n 2, 1) ∧ 3270 + 1 = 3271 := by decide +kernel
theorem d_L_3271 : decode YL.2.1 3271 = .ok (.aload_n 0, 1) ∧ 3271 + 1 = 3272 := by decide +kernel
theorem d_L_3272 : decode YL.2.1 3272 = .ok (.iload_n 3, 1) ∧ 3272 + 1 = 3273 := by decide +kernel
theorem d_L_3273 : decode YL.2.1 3273 = .ok (.iconst 1, 1) ∧ 3273 + 1 = 3274 := by decide +kernel
theorem d_L_3274 : decode YL.2.1 3274 = .ok (.iadd, 1) ∧ 3274 + 1 = 3275 := by decide +kernel
theorem d_L_3275 : decode YL.2.1 3275 = .ok (.iaload, 1) ∧ 3275 + 1 = 3276 := by decide +kernel
theorem d_L_3276 : decode YL.2.1 3276 = .ok (.aload_n 0, 1) ∧ 3276 + 1 = 3277 := by decide +kernel
theorem d_L_3277 : decode YL.2.1 3277 = .ok (.iload_n 3, 1) ∧ 3277 + 1 = 3278 := by decide +kernel
theorem d_L_3278 : decode YL.2.1 3278 = .ok (.iconst 2, 1) ∧ 3278 + 1 = 3279 := by decide +kernel
theorem d_L_3279 : decode YL.2.1 3279 = .ok (.iadd, 1) ∧ 3279 + 1 = 3280 := by decide +kernel
theorem d_L_3280 : decode YL.2.1 3280 = .ok (.iaload, 1) ∧ 3280 + 1 = 3281 := by decide +kernel
theorem d_L_3281 : decode YL.2.1 3281 = .ok (.invokevirtual 339, 3) ∧ 3281 + 3 = 3284 := by decide +kernel
theorem d_L_3284 : decode YL.2.1 3284 = .ok (.pop, 1) ∧ 3284 + 1 = 3285 := by decide +kernel
theorem d_L_3285 : decode YL.2.1 3285 = .ok (.goto 191, 3) ∧ ((3285 : Nat) : Int) + 191 = ((3476 : Nat) : Int) ∧ 3285 + 3 = 3288 := by decide +kernel
theorem d_L_3288 : decode YL.2.1 3288 = .ok (.aload_n 1, 1) ∧ 3288 + 1 = 3289 := by decide +kernel
theorem d_L_3289 : decode YL.2.1 3289 = .ok (.invokevirtual 340, 3) ∧ 3289 + 3 = 3292 := by decide +kernel
theorem d_L_3292 : decode YL.2.1 3292 = .ok (.pop, 1) ∧ 3292 + 1 = 3293 := by decide +kernel
theorem d_L_3293 : decode YL.2.1 3293 = .ok (.aload_n 2, 1) ∧ 3293 + 1 = 3294 := by decide +kernel
theorem d_L_3294 : decode YL.2.1 3294 = .ok (.invokevirtual 343, 3) ∧ 3294 + 3 = 3297 := by decide +kernel
theorem d_L_3297 : decode YL.2.1 3297 = .ok (.pop, 1) ∧ 3297 + 1 = 3298 := by decide +kernel
theorem d_L_3298 : decode YL.2.1 3298 = .ok (.goto 178, 3) ∧ ((3298 : Nat) : Int) + 178 = ((3476 : Nat) : Int) ∧ 3298 + 3 = 3301 := by decide +kernel
theorem d_L_3301 : decode YL.2.1 3301 = .ok (.aload_n 1, 1) ∧ 3301 + 1 = 3302 := by decide +kernel
theorem d_L_3302 : decode YL.2.1 3302 = .ok (.aload_n 0, 1) ∧ 3302 + 1 = 3303 := by decide +kernel
theorem d_L_3303 : decode YL.2.1 3303 = .ok (.iload_n 3, 1) ∧ 3303 + 1 = 3304 := by decide +kernel
theorem d_L_3304 : decode YL.2.1 3304 = .ok (.iconst 1, 1) ∧ 3304 + 1 = 3305 := by decide +kernel
theorem d_L_3305 : decode YL.2.1 3305 = .ok (.iadd, 1) ∧ 3305 + 1 = 3306 := by decide +kernel
theorem d_L_3306 : decode YL.2.1 3306 = .ok (.iaload, 1) ∧ 3306 + 1 = 3307 := by decide +kernel
theorem d_L_3307 : decode YL.2.1 3307 = .ok (.aload_n 0, 1) ∧ 3307 + 1 = 3308 := by decide +kernel
theorem d_L_3308 : decode YL.2.1 3308 = .ok (.iload_n 3, 1) ∧ 3308 + 1 = 3309 := by decide +kernel
theorem d_L_3309 : decode YL.2.1 3309 = .ok (.iconst 2, 1) ∧ 3309 + 1 = 3310 := by decide +kernel
theorem d_L_3310 : decode YL.2.1 3310 = .ok (.iadd, 1) ∧ 3310 + 1 = 3311 := by decide +kernel
theorem d_L_3311 : decode YL.2.1 3311 = .ok (.iaload, 1) ∧ 3311 + 1 = 3312 := by decide +kernel
theorem d_L_3312 : decode YL.2.1 3312 = .ok (.invokevirtual 344, 3) ∧ 3312 + 3 = 3315 := by decide +kernel
theorem d_L_3315 : decode YL.2.1 3315 = .ok (.pop, 1) ∧ 3315 + 1 = 3316 := by decide +kernel
theorem d_L_3316 : decode YL.2.1 3316 = .ok (.aload_n 2, 1) ∧ 3316 + 1 = 3317 := by decide +kernel
theorem d_L_3317 : decode YL.2.1 3317 = .ok (.aload_n 0, 1) ∧ 3317 + 1 = 3318 := by decide +kernel
theorem d_L_3318 : decode YL.2.1 3318 = .ok (.iload_n 3, 1) ∧ 3318 + 1 = 3319 := by decide +kernel
theorem d_L_3319 : decode YL.2.1 3319 = .ok (.iconst 1, 1) ∧ 3319 + 1 = 3320 := by decide +kernel
theorem d_L_3320 : decode YL.2.1 3320 = .ok (.iadd, 1) ∧ 3320 + 1 = 3321 := by decide +kernel
theorem d_L_3321 : decode YL.2.1 3321 = .ok (.iaload, 1) ∧ 3321 + 1 = 3322 := by decide +kernel
theorem d_L_3322 : decode YL.2.1 3322 = .ok (.aload_n 0, 1) ∧ 3322 + 1 = 3323 := by decide +kernel
theorem d_L_3323 : decode YL.2.1 3323 = .ok (.iload_n 3, 1) ∧ 3323 + 1 = 3324 := by decide +kernel
theorem d_L_3324 : decode YL.2.1 3324 = .ok (.iconst 2, 1) ∧ 3324 + 1 = 3325 := by decide +kernel
theorem d_L_3325 : decode YL.2.1 3325 = .ok (.iadd, 1) ∧ 3325 + 1 = 3326 := by decide +kernel
theorem d_L_3326 : decode YL.2.1 3326 = .ok (.iaload, 1) ∧ 3326 + 1 = 3327 := by decide +kernel
theorem d_L_3327 : decode YL.2.1 3327 = .ok (.invokevirtual 347, 3) ∧ 3327 + 3 = 3330 := by decide +kernel
theorem d_L_3330 : decode YL.2.1 3330 = .ok (.pop, 1) ∧ 3330 + 1 = 3331 := by decide +kernel
theorem d_L_3331 : decode YL.2.1 3331 = .ok (.goto 145, 3) ∧ ((3331 : Nat) : Int) + 145 = ((3476 : Nat) : Int) ∧ 3331 + 3 = 3334 := by decide +kernel
theorem d_L_3334 : decode YL.2.1 3334 = .ok (.aload_n 1, 1) ∧ 3334 + 1 = 3335 := by decide +kernel
theorem d_L_3335 : decode YL.2.1 3335 = .ok (.aload_n 0, 1) ∧ 3335 + 1 = 3336 := by decide +kernel
theorem d_L_3336 : decode YL.2.1 3336 = .ok (.iload_n 3, 1) ∧ 3336 + 1 = 3337 := by decide +kernel
theorem d_L_3337 : decode YL.2.1 3337 = .ok (.iconst 1, 1) ∧ 3337 + 1 = 3338 := by decide +kernel
theorem d_L_3338 : decode YL.2.1 3338 = .ok (.iadd, 1) ∧ 3338 + 1 = 3339 := by decide +kernel
theorem d_L_3339 : decode YL.2.1 3339 = .ok (.iaload, 1) ∧ 3339 + 1 = 3340 := by decide +kernel
theorem d_L_3340 : decode YL.2.1 3340 = .ok (.aload_n 0, 1) ∧ 3340 + 1 = 3341 := by decide +kernel
theorem d_L_3341 : decode YL.2.1 3341 = .ok (.iload_n 3, 1) ∧ 3341 + 1 = 3342 := by decide +kernel
theorem d_L_3342 : decode YL.2.1 3342 = .ok (.iconst 2, 1) ∧ 3342 + 1 = 3343 := by decide +kernel
theorem d_L_3343 : decode YL.2.1 3343 = .ok (.iadd, 1) ∧ 3343 + 1 = 3344 := by decide +kernel
theorem d_L_3344 : decode YL.2.1 3344 = .ok (.iaload, 1) ∧ 3344 + 1 = 3345 := by decide +kernel
theorem d_L_3345 : decode YL.2.1 3345 = .ok (.aload_n 0, 1) ∧ 3345 + 1 = 3346 := by decide +kernel
theorem d_L_3346 : decode YL.2.1 3346 = .ok (.iload_n 3, 1) ∧ 3346 + 1 = 3347 := by decide +kernel
theorem d_L_3347 : decode YL.2.1 3347 = .ok (.iconst 3, 1) ∧ 3347 + 1 = 3348 := by decide +kernel
theorem d_L_3348 : decode YL.2.1 3348 = .ok (.iadd, 1) ∧ 3348 + 1 = 3349 := by decide +kernel
theorem d_L_3349 : decode YL.2.1 3349 = .ok (.iaload, 1) ∧ 3349 + 1 = 3350 := by decide +kernel
theorem d_L_3350 : decode YL.2.1 3350 = .ok (.invokevirtual 348, 3) ∧ 3350 + 3 = 3353 := by decide +kernel
theorem d_L_3353 : decode YL.2.1 3353 = .ok (.pop, 1) ∧ 3353 + 1 = 3354 := by decide +kernel
theorem d_L_3354 : decode YL.2.1 3354 = .ok (.aload_n 2, 1) ∧ 3354 + 1 = 3355 := by decide +kernel
theorem d_L_3355 : decode YL.2.1 3355 = .ok (.aload_n 0, 1) ∧ 3355 + 1 = 3356 := by decide +kernel
theorem d_L_3356 : decode YL.2.1 3356 = .ok (.iload_n 3, 1) ∧ 3356 + 1 = 3357 := by decide +kernel
theorem d_L_3357 : decode YL.2.1 3357 = .ok (.iconst 1, 1) ∧ 3357 + 1 = 3358 := by decide +kernel
theorem d_L_3358 : decode YL.2.1 3358 = .ok (.iadd, 1) ∧ 3358 + 1 = 3359 := by decide +kernel
theorem d_L_3359 : decode YL.2.1 3359 = .ok (.iaload, 1) ∧ 3359 + 1 = 3360 := by decide +kernel
theorem d_L_3360 : decode YL.2.1 3360 = .ok (.aload_n 0, 1) ∧ 3360 + 1 = 3361 := by decide +kernel
theorem d_L_3361 : decode YL.2.1 3361 = .ok (.iload_n 3, 1) ∧ 3361 + 1 = 3362 := by decide +kernel
theorem d_L_3362 : decode YL.2.1 3362 = .ok (.iconst 2, 1) ∧ 3362 + 1 = 3363 := by decide +kernel
theorem d_L_3363 : decode YL.2.1 3363 = .ok (.iadd, 1) ∧ 3363 + 1 = 3364 := by decide +kernel
theorem d_L_3364 : decode YL.2.1 3364 = .ok (.iaload, 1) ∧ 3364 + 1 = 3365 := by decide +kernel
theorem d_L_3365 : decode YL.2.1 3365 = .ok (.aload_n 0, 1) ∧ 3365 + 1 = 3366 := by decide +kernel
theorem d_L_3366 : decode YL.2.1 3366 = .ok (.iload_n 3, 1) ∧ 3366 + 1 = 3367 := by decide +kernel
theorem d_L_3367 : decode YL.2.1 3367 = .ok (.iconst 3, 1) ∧ 3367 + 1 = 3368 := by decide +kernel
theorem d_L_3368 : decode YL.2.1 3368 = .ok (.iadd, 1) ∧ 3368 + 1 = 3369 := by decide +kernel
theorem d_L_3369 : decode YL.2.1 3369 = .ok (.iaload, 1) ∧ 3369 + 1 = 3370 := by decide +kernel
theorem d_L_3370 : decode YL.2.1 3370 = .ok (.invokevirtual 351, 3) ∧ 3370 + 3 = 3373 := by decide +kernel
theorem d_L_3373 : decode YL.2.1 3373 = .ok (.pop, 1) ∧ 3373 + 1 = 3374 := by decide +kernel
theorem d_L_3374 : decode YL.2.1 3374 = .ok (.goto 102, 3) ∧ ((3374 : Nat) : Int) + 102 = ((3476 : Nat) : Int) ∧ 3374 + 3 = 3377 := by decide +kernel
theorem d_L_3377 : decode YL.2.1 3377 = .ok (.aload_n 1, 1) ∧ 3377 + 1 = 3378 := by decide +kernel
theorem d_L_3378 : decode YL.2.1 3378 = .ok (.invokevirtual 352, 3) ∧ 3378 + 3 = 3381 := by decide +kernel
theorem d_L_3381 : decode YL.2.1 3381 = .ok (.pop, 1) ∧ 3381 + 1 = 3382 := by decide +kernel
theorem d_L_3382 : decode YL.2.1 3382 = .ok (.aload_n 2, 1) ∧ 3382 + 1 = 3383 := by decide +kernel
theorem d_L_3383 : decode YL.2.1 3383 = .ok (.invokevirtual 355, 3) ∧ 3383 + 3 = 3386 := by decide +kernel
theorem d_L_3386 : decode YL.2.1 3386 = .ok (.pop, 1) ∧ 3386 + 1 = 3387 := by decide +kernel
theorem d_L_3387 : decode YL.2.1 3387 = .ok (.goto 89, 3) ∧ ((3387 : Nat) : Int) + 89 = ((3476 : Nat) : Int) ∧ 3387 + 3 = 3390 := by decide +kernel
theorem d_L_3390 : decode YL.2.1 3390 = .ok (.aload_n 1, 1) ∧ 3390 + 1 = 3391 := by decide +kernel
theorem d_L_3391 : decode YL.2.1 3391 = .ok (.aload_n 0, 1) ∧ 3391 + 1 = 3392 := by decide +kernel
theorem d_L_3392 : decode YL.2.1 3392 = .ok (.iload_n 3, 1) ∧ 3392 + 1 = 3393 := by decide +kernel
theorem d_L_3393 : decode YL.2.1 3393 = .ok (.iconst 1, 1) ∧ 3393 + 1 = 3394 := by decide +kernel
theorem d_L_3394 : decode YL.2.1 3394 = .ok (.iadd, 1) ∧ 3394 + 1 = 3395 := by decide +kernel
theorem d_L_3395 : decode YL.2.1 3395 = .ok (.iaload, 1) ∧ 3395 + 1 = 3396 := by decide +kernel
theorem d_L_3396 : decode YL.2.1 3396 = .ok (.aload_n 0, 1) ∧ 3396 + 1 = 3397 := by decide +kernel
theorem d_L_3397 : decode YL.2.1 3397 = .ok (.iload_n 3, 1) ∧ 3397 + 1 = 3398 := by decide +kernel
theorem d_L_3398 : decode YL.2.1 3398 = .ok (.iconst 2, 1) ∧ 3398 + 1 = 3399 := by decide +kernel
theorem d_L_3399 : decode YL.2.1 3399 = .ok (.iadd, 1) ∧ 3399 + 1 = 3400 := by decide +kernel
theorem d_L_3400 : decode YL.2.1 3400 = .ok (.iaload, 1) ∧ 3400 + 1 = 3401 := by decide +kernel
theorem d_L_3401 : decode YL.2.1 3401 = .ok (.invokevirtual 356, 3) ∧ 3401 + 3 = 3404 := by decide +kernel
theorem d_L_3404 : decode YL.2.1 3404 = .ok (.pop, 1) ∧ 3404 + 1 = 3405 := by decide +kernel
theorem d_L_3405 : decode YL.2.1 3405 = .ok (.aload_n 2, 1) ∧ 3405 + 1 = 3406 := by decide +kernel
theorem d_L_3406 : decode YL.2.1 3406 = .ok (.aload_n 0, 1) ∧ 3406 + 1 = 3407 := by decide +kernel
theorem d_L_3407 : decode YL.2.1 3407 = .ok (.iload_n 3, 1) ∧ 3407 + 1 = 3408 := by decide +kernel
theorem d_L_3408 : decode YL.2.1 3408 = .ok (.iconst 1, 1) ∧ 3408 + 1 = 3409 := by decide +kernel
theorem d_L_3409 : decode YL.2.1 3409 = .ok (.iadd, 1) ∧ 3409 + 1 = 3410 := by decide +kernel
theorem d_L_3410 : decode YL.2.1 3410 = .ok (.iaload, 1) ∧ 3410 + 1 = 3411 := by decide +kernel
theorem d_L_3411 : decode YL.2.1 3411 = .ok (.aload_n 0, 1) ∧ 3411 + 1 = 3412 := by decide +kernel
theorem d_L_3412 : decode YL.2.1 3412 = .ok (.iload_n 3, 1) ∧ 3412 + 1 = 3413 := by decide +kernel
theorem d_L_3413 : decode YL.2.1 3413 = .ok (.iconst 2, 1) ∧ 3413 + 1 = 3414 := by decide +kernel
theorem d_L_3414 : decode YL.2.1 3414 = .ok (.iadd, 1) ∧ 3414 + 1 = 3415 := by decide +kernel
theorem d_L_3415 : decode YL.2.1 3415 = .ok (.iaload, 1) ∧ 3415 + 1 = 3416 := by decide +kernel
theorem d_L_3416 : decode YL.2.1 3416 = .ok (.invokevirtual 359, 3) ∧ 3416 + 3 = 3419 := by decide +kernel
theorem d_L_3419 : decode YL.2.1 3419 = .ok (.pop, 1) ∧ 3419 + 1 = 3420 := by decide +kernel
theorem d_L_3420 : decode YL.2.1 3420 = .ok (.goto 56, 3) ∧ ((3420 : Nat) : Int) + 56 = ((3476 : Nat) : Int) ∧ 3420 + 3 = 3423 := by decide +kernel
theorem d_L_3423 : decode YL.2.1 3423 = .ok (.aload_n 1, 1) ∧ 3423 + 1 = 3424 := by decide +kernel
theorem d_L_3424 : decode YL.2.1 3424 = .ok (.aload_n 0, 1) ∧ 3424 + 1 = 3425 := by decide +kernel
theorem d_L_3425 : decode YL.2.1 3425 = .ok (.iload_n 3, 1) ∧ 3425 + 1 = 3426 := by decide +kernel
theorem d_L_3426 : decode YL.2.1 3426 = .ok (.iconst 1, 1) ∧ 3426 + 1 = 3427 := by decide +kernel
theorem d_L_3427 : decode YL.2.1 3427 = .ok (.iadd, 1) ∧ 3427 + 1 = 3428 := by decide +kernel
theorem d_L_3428 : decode YL.2.1 3428 = .ok (.iaload, 1) ∧ 3428 + 1 = 3429 := by decide +kernel
theorem d_L_3429 : decode YL.2.1 3429 = .ok (.aload_n 0, 1) ∧ 3429 + 1 = 3430 := by decide +kernel
theorem d_L_3430 : decode YL.2.1 3430 = .ok (.iload_n 3, 1) ∧ 3430 + 1 = 3431 := by decide +kernel
theorem d_L_3431 : decode YL.2.1 3431 = .ok (.iconst 2, 1) ∧ 3431 + 1 = 3432 := by decide +kernel
theorem d_L_3432 : decode YL.2.1 3432 = .ok (.iadd, 1) ∧ 3432 + 1 = 3433 := by decide +kernel
theorem d_L_3433 : decode YL.2.1 3433 = .ok (.iaload, 1) ∧ 3433 + 1 = 3434 := by decide +kernel
theorem d_L_3434 : decode YL.2.1 3434 = .ok (.aload_n 0, 1) ∧ 3434 + 1 = 3435 := by decide +kernel
theorem d_L_3435 : decode YL.2.1 3435 = .ok (.iload_n 3, 1) ∧ 3435 + 1 = 3436 := by decide +kernel
theorem d_L_3436 : decode YL.2.1 3436 = .ok (.iconst 3, 1) ∧ 3436 + 1 = 3437 := by decide +kernel
theorem d_L_3437 : decode YL.2.1 3437 = .ok (.iadd, 1) ∧ 3437 + 1 = 3438 := by decide +kernel
theorem d_L_3438 : decode YL.2.1 3438 = .ok (.iaload, 1) ∧ 3438 + 1 = 3439 := by decide +kernel
theorem d_L_3439 : decode YL.2.1 3439 = .ok (.aload_n 0, 1) ∧ 3439 + 1 = 3440 := by decide +kernel
theorem d_L_3440 : decode YL.2.1 3440 = .ok (.iload_n 3, 1) ∧ 3440 + 1 = 3441 := by decide +kernel
theorem d_L_3441 : decode YL.2.1 3441 = .ok (.iconst 4, 1) ∧ 3441 + 1 = 3442 := by decide +kernel
theorem d_L_3442 : decode YL.2.1 3442 = .ok (.iadd, 1) ∧ 3442 + 1 = 3443 := by decide +kernel
theorem d_L_3443 : decode YL.2.1 3443 = .ok (.iaload, 1) ∧ 3443 + 1 = 3444 := by decide +kernel
theorem d_L_3444 : decode YL.2.1 3444 = .ok (.invokevirtual 360, 3) ∧ 3444 + 3 = 3447 := by decide +kernel
theorem d_L_3447 : decode YL.2.1 3447 = .ok (.pop, 1) ∧ 3447 + 1 = 3448 := by decide +kernel
theorem d_L_3448 : decode YL.2.1 3448 = .ok (.aload_n 2, 1) ∧ 3448 + 1 = 3449 := by decide +kernel
theorem d_L_3449 : decode YL.2.1 3449 = .ok (.aload_n 0, 1) ∧ 3449 + 1 = 3450 := by decide +kernel
theorem d_L_3450 : decode YL.2.1 3450 = .ok (.iload_n 3, 1) ∧ 3450 + 1 = 3451 := by decide +kernel
theorem d_L_3451 : decode YL.2.1 3451 = .ok (.iconst 1, 1) ∧ 3451 + 1 = 3452 := by decide +kernel
theorem d_L_3452 : decode YL.2.1 3452 = .ok (.iadd, 1) ∧ 3452 + 1 = 3453 := by decide +kernel
theorem d_L_3453 : decode YL.2.1 3453 = .ok (.iaload, 1) ∧ 3453 + 1 = 3454 := by decide +kernel
theorem d_L_3454 : decode YL.2.1 3454 = .ok (.aload_n 0, 1) ∧ 3454 + 1 = 3455 := by decide +kernel
theorem d_L_3455 : decode YL.2.1 3455 = .ok (.iload_n 3, 1) ∧ 3455 + 1 = 3456 := by decide +kernel
theorem d_L_3456 : decode YL.2.1 3456 = .ok (.iconst 2, 1) ∧ 3456 + 1 = 3457 := by decide +kernel
theorem d_L_3457 : decode YL.2.1 3457 = .ok (.iadd, 1) ∧ 3457 + 1 = 3458 := by decide +kernel
theorem d_L_3458 : decode YL.2.1 3458 = .ok (.iaload, 1) ∧ 3458 + 1 = 3459 := by decide +kernel
theorem d_L_3459 : decode YL.2.1 3459 = .ok (.aload_n 0, 1) ∧ 3459 + 1 = 3460 := by decide +kernel
theorem d_L_3460 : decode YL.2.1 3460 = .ok (.iload_n 3, 1) ∧ 3460 + 1 = 3461 := by decide +kernel
theorem d_L_3461 : decode YL.2.1 3461 = .ok (.iconst 3, 1) ∧ 3461 + 1 = 3462 := by decide +kernel
theorem d_L_3462 : decode YL.2.1 3462 = .ok (.iadd, 1) ∧ 3462 + 1 = 3463 := by decide +kernel
theorem d_L_3463 : decode YL.2.1 3463 = .ok (.iaload, 1) ∧ 3463 + 1 = 3464 := by decide +kernel
theorem d_L_3464 : decode YL.2.1 3464 = .ok (.aload_n 0, 1) ∧ 3464 + 1 = 3465 := by decide +kernel
theorem d_L_3465 : decode YL.2.1 3465 = .ok (.iload_n 3, 1) ∧ 3465 + 1 = 3466 := by decide +kernel
theorem d_L_3466 : decode YL.2.1 3466 = .ok (.iconst 4, 1) ∧ 3466 + 1 = 3467 := by decide +kernel
theorem d_L_3467 : decode YL.2.1 3467 = .ok (.iadd, 1) ∧ 3467 + 1 = 3468 := by decide +kernel
theorem d_L_3468 : decode YL.2.1 3468 = .ok (.iaload, 1) ∧ 3468 + 1 = 3469 := by decide +kernel
theorem d_L_3469 : decode YL.2.1 3469 = .ok (.invokevirtual 363, 3) ∧ 3469 + 3 = 3472 := by decide +kernel
theorem d_L_3472 : decode YL.2.1 3472 = .ok (.pop, 1) ∧ 3472 + 1 = 3473 := by decide +kernel
theorem d_L_3473 : decode YL.2.1 3473 = .ok (.goto 3, 3) ∧ ((3473 : Nat) : Int) + 3 = ((3476 : Nat) : Int) ∧ 3473 + 3 = 3476 := by decide +kernel
theorem d_L_3476 : decode YL.2.1 3476 = .ok (.iinc 3 8, 3) ∧ 3476 + 3 = 3479 := by decide +kernel
theorem d_L_3479 : decode YL.2.1 3479 = .ok (.goto (-3461), 3) ∧ ((3479 : Nat) : Int) + (-3461) = ((18 : Nat) : Int) ∧ 3479 + 3 = 3482 := by decide +kernel
theorem d_L_3482 : decode YL.2.1 3482 = .ok (.iconst 1, 1) ∧ 3482 + 1 = 3483 := by decide +kernel
theorem d_L_3483 : decode YL.2.1 3483 = .ok (.ireturn, 1) := by decide +kernel
