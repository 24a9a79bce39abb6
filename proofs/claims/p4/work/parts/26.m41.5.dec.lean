theorem dB_old_26_m41_5_dec_0 : dAll YL.2.1 [(2964, (.invokevirtual 303, 3)), (2967, (.pop2, 1)), (2968, (.goto 508, 3)), (2971, (.aload_n 1, 1)), (2972, (.aload_n 0, 1)), (2973, (.iload_n 3, 1)), (2974, (.iconst 1, 1)), (2975, (.iadd, 1)), (2976, (.iaload, 1)), (2977, (.aload_n 0, 1)), (2978, (.iload_n 3, 1)), (2979, (.iconst 2, 1)), (2980, (.iadd, 1)), (2981, (.iaload, 1)), (2982, (.i2l, 1)), (2983, (.bipush 32, 2)), (2985, (.lshl, 1)), (2986, (.aload_n 0, 1)), (2987, (.iload_n 3, 1)), (2988, (.iconst 3, 1)), (2989, (.iadd, 1)), (2990, (.iaload, 1)), (2991, (.i2l, 1)), (2992, (.ldc2_w 13, 3)), (2995, (.land, 1)), (2996, (.lor, 1)), (2997, (.invokevirtual 304, 3)), (3000, (.pop2, 1)), (3001, (.aload_n 2, 1)), (3002, (.aload_n 0, 1))] := dAll_of (by decide +kernel)
theorem d_L_2964 : decode YL.2.1 2964 = .ok (.invokevirtual 303, 3) ∧ 2964 + 3 = 2967 := ⟨dB_old_26_m41_5_dec_0.1, by decide⟩
theorem d_L_2967 : decode YL.2.1 2967 = .ok (.pop2, 1) ∧ 2967 + 1 = 2968 := ⟨dB_old_26_m41_5_dec_0.2.1, by decide⟩
theorem d_L_2968 : decode YL.2.1 2968 = .ok (.goto 508, 3) ∧ ((2968 : Nat) : Int) + 508 = ((3476 : Nat) : Int) ∧ 2968 + 3 = 2971 := ⟨dB_old_26_m41_5_dec_0.2.2.1, by decide⟩
theorem d_L_2971 : decode YL.2.1 2971 = .ok (.aload_n 1, 1) ∧ 2971 + 1 = 2972 := ⟨dB_old_26_m41_5_dec_0.2.2.2.1, by decide⟩
theorem d_L_2972 : decode YL.2.1 2972 = .ok (.aload_n 0, 1) ∧ 2972 + 1 = 2973 := ⟨dB_old_26_m41_5_dec_0.2.2.2.2.1, by decide⟩
theorem d_L_2973 : decode YL.2.1 2973 = .ok (.iload_n 3, 1) ∧ 2973 + 1 = 2974 := ⟨dB_old_26_m41_5_dec_0.2.2.2.2.2.1, by decide⟩
theorem d_L_2974 : decode YL.2.1 2974 = .ok (.iconst 1, 1) ∧ 2974 + 1 = 2975 := ⟨dB_old_26_m41_5_dec_0.2.2.2.2.2.2.1, by decide⟩
theorem d_L_2975 : decode YL.2.1 2975 = .ok (.iadd, 1) ∧ 2975 + 1 = 2976 := ⟨dB_old_26_m41_5_dec_0.2.2.2.2.2.2.2.1, by decide⟩
theorem d_L_2976 : decode YL.2.1 2976 = .ok (.iaload, 1) ∧ 2976 + 1 = 2977 := ⟨dB_old_26_m41_5_dec_0.2.2.2.2.2.2.2.2.1, by decide⟩
theorem d_L_2977 : decode YL.2.1 2977 = .ok (.aload_n 0, 1) ∧ 2977 + 1 = 2978 := ⟨dB_old_26_m41_5_dec_0.2.2.2.2.2.2.2.2.2.1, by decide⟩
theorem d_L_2978 : decode YL.2.1 2978 = .ok (.iload_n 3, 1) ∧ 2978 + 1 = 2979 := ⟨dB_old_26_m41_5_dec_0.2.2.2.2.2.2.2.2.2.2.1, by decide⟩
theorem d_L_2979 : decode YL.2.1 2979 = .ok (.iconst 2, 1) ∧ 2979 + 1 = 2980 := ⟨dB_old_26_m41_5_dec_0.2.2.2.2.2.2.2.2.2.2.2.1, by decide⟩
theorem d_L_2980 : decode YL.2.1 2980 = .ok (.iadd, 1) ∧ 2980 + 1 = 2981 := ⟨dB_old_26_m41_5_dec_0.2.2.2.2.2.2.2.2.2.2.2.2.1, by decide⟩
theorem d_L_2981 : decode YL.2.1 2981 = .ok (.iaload, 1) ∧ 2981 + 1 = 2982 := ⟨dB_old_26_m41_5_dec_0.2.2.2.2.2.2.2.2.2.2.2.2.2.1, by decide⟩
theorem d_L_2982 : decode YL.2.1 2982 = .ok (.i2l, 1) ∧ 2982 + 1 = 2983 := ⟨dB_old_26_m41_5_dec_0.2.2.2.2.2.2.2.2.2.2.2.2.2.2.1, by decide⟩
theorem d_L_2983 : decode YL.2.1 2983 = .ok (.bipush 32, 2) ∧ 2983 + 2 = 2985 := ⟨dB_old_26_m41_5_dec_0.2.2.2.2.2.2.2.2.2.2.2.2.2.2.2.1, by decide⟩
theorem d_L_2985 : decode YL.2.1 2985 = .ok (.lshl, 1) ∧ 2985 + 1 = 2986 := ⟨dB_old_26_m41_5_dec_0.2.2.2.2.2.2.2.2.2.2.2.2.2.2.2.2.1, by decide⟩
theorem d_L_2986 : decode YL.2.1 2986 = .ok (.aload_n 0, 1) ∧ 2986 + 1 = 2987 := ⟨dB_old_26_m41_5_dec_0.2.2.2.2.2.2.2.2.2.2.2.2.2.2.2.2.2.1, by decide⟩
theorem d_L_2987 : decode YL.2.1 2987 = .ok (.iload_n 3, 1) ∧ 2987 + 1 = 2988 := ⟨dB_old_26_m41_5_dec_0.2.2.2.2.2.2.2.2.2.2.2.2.2.2.2.2.2.2.1, by decide⟩
theorem d_L_2988 : decode YL.2.1 2988 = .ok (.iconst 3, 1) ∧ 2988 + 1 = 2989 := ⟨dB_old_26_m41_5_dec_0.2.2.2.2.2.2.2.2.2.2.2.2.2.2.2.2.2.2.2.1, by decide⟩
theorem d_L_2989 : decode YL.2.1 2989 = .ok (.iadd, 1) ∧ 2989 + 1 = 2990 := ⟨dB_old_26_m41_5_dec_0.2.2.2.2.2.2.2.2.2.2.2.2.2.2.2.2.2.2.2.2.1, by decide⟩
theorem d_L_2990 : decode YL.2.1 2990 = .ok (.iaload, 1) ∧ 2990 + 1 = 2991 := ⟨dB_old_26_m41_5_dec_0.2.2.2.2.2.2.2.2.2.2.2.2.2.2.2.2.2.2.2.2.2.1, by decide⟩
theorem d_L_2991 : decode YL.2.1 2991 = .ok (.i2l, 1) ∧ 2991 + 1 = 2992 := ⟨dB_old_26_m41_5_dec_0.2.2.2.2.2.2.2.2.2.2.2.2.2.2.2.2.2.2.2.2.2.2.1, by decide⟩
theorem d_L_2992 : decode YL.2.1 2992 = .ok (.ldc2_w 13, 3) ∧ 2992 + 3 = 2995 := ⟨dB_old_26_m41_5_dec_0.2.2.2.2.2.2.2.2.2.2.2.2.2.2.2.2.2.2.2.2.2.2.2.1, by decide⟩
theorem d_L_2995 : decode YL.2.1 2995 = .ok (.land, 1) ∧ 2995 + 1 = 2996 := ⟨dB_old_26_m41_5_dec_0.2.2.2.2.2.2.2.2.2.2.2.2.2.2.2.2.2.2.2.2.2.2.2.2.1, by decide⟩
theorem d_L_2996 : decode YL.2.1 2996 = .ok (.lor, 1) ∧ 2996 + 1 = 2997 := ⟨dB_old_26_m41_5_dec_0.2.2.2.2.2.2.2.2.2.2.2.2.2.2.2.2.2.2.2.2.2.2.2.2.2.1, by decide⟩
theorem d_L_2997 : decode YL.2.1 2997 = .ok (.invokevirtual 304, 3) ∧ 2997 + 3 = 3000 := ⟨dB_old_26_m41_5_dec_0.2.2.2.2.2.2.2.2.2.2.2.2.2.2.2.2.2.2.2.2.2.2.2.2.2.2.1, by decide⟩
theorem d_L_3000 : decode YL.2.1 3000 = .ok (.pop2, 1) ∧ 3000 + 1 = 3001 := ⟨dB_old_26_m41_5_dec_0.2.2.2.2.2.2.2.2.2.2.2.2.2.2.2.2.2.2.2.2.2.2.2.2.2.2.2.1, by decide⟩
theorem d_L_3001 : decode YL.2.1 3001 = .ok (.aload_n 2, 1) ∧ 3001 + 1 = 3002 := ⟨dB_old_26_m41_5_dec_0.2.2.2.2.2.2.2.2.2.2.2.2.2.2.2.2.2.2.2.2.2.2.2.2.2.2.2.2.1, by decide⟩
theorem d_L_3002 : decode YL.2.1 3002 = .ok (.aload_n 0, 1) ∧ 3002 + 1 = 3003 := ⟨dB_old_26_m41_5_dec_0.2.2.2.2.2.2.2.2.2.2.2.2.2.2.2.2.2.2.2.2.2.2.2.2.2.2.2.2.2.1, by decide⟩
theorem dB_old_26_m41_5_dec_1 : dAll YL.2.1 [(3003, (.iload_n 3, 1)), (3004, (.iconst 1, 1)), (3005, (.iadd, 1)), (3006, (.iaload, 1)), (3007, (.aload_n 0, 1)), (3008, (.iload_n 3, 1)), (3009, (.iconst 2, 1)), (3010, (.iadd, 1)), (3011, (.iaload, 1)), (3012, (.i2l, 1)), (3013, (.bipush 32, 2)), (3015, (.lshl, 1)), (3016, (.aload_n 0, 1)), (3017, (.iload_n 3, 1)), (3018, (.iconst 3, 1)), (3019, (.iadd, 1)), (3020, (.iaload, 1)), (3021, (.i2l, 1)), (3022, (.ldc2_w 13, 3)), (3025, (.land, 1)), (3026, (.lor, 1)), (3027, (.invokevirtual 307, 3)), (3030, (.pop2, 1)), (3031, (.goto 445, 3)), (3034, (.aload_n 1, 1)), (3035, (.aload_n 0, 1)), (3036, (.iload_n 3, 1)), (3037, (.iconst 1, 1)), (3038, (.iadd, 1)), (3039, (.iaload, 1))] := dAll_of (by decide +kernel)
theorem d_L_3003 : decode YL.2.1 3003 = .ok (.iload_n 3, 1) ∧ 3003 + 1 = 3004 := ⟨dB_old_26_m41_5_dec_1.1, by decide⟩
theorem d_L_3004 : decode YL.2.1 3004 = .ok (.iconst 1, 1) ∧ 3004 + 1 = 3005 := ⟨dB_old_26_m41_5_dec_1.2.1, by decide⟩
theorem d_L_3005 : decode YL.2.1 3005 = .ok (.iadd, 1) ∧ 3005 + 1 = 3006 := ⟨dB_old_26_m41_5_dec_1.2.2.1, by decide⟩
theorem d_L_3006 : decode YL.2.1 3006 = .ok (.iaload, 1) ∧ 3006 + 1 = 3007 := ⟨dB_old_26_m41_5_dec_1.2.2.2.1, by decide⟩
theorem d_L_3007 : decode YL.2.1 3007 = .ok (.aload_n 0, 1) ∧ 3007 + 1 = 3008 := ⟨dB_old_26_m41_5_dec_1.2.2.2.2.1, by decide⟩
theorem d_L_3008 : decode YL.2.1 3008 = .ok (.iload_n 3, 1) ∧ 3008 + 1 = 3009 := ⟨dB_old_26_m41_5_dec_1.2.2.2.2.2.1, by decide⟩
theorem d_L_3009 : decode YL.2.1 3009 = .ok (.iconst 2, 1) ∧ 3009 + 1 = 3010 := ⟨dB_old_26_m41_5_dec_1.2.2.2.2.2.2.1, by decide⟩
theorem d_L_3010 : decode YL.2.1 3010 = .ok (.iadd, 1) ∧ 3010 + 1 = 3011 := ⟨dB_old_26_m41_5_dec_1.2.2.2.2.2.2.2.1, by decide⟩
theorem d_L_3011 : decode YL.2.1 3011 = .ok (.iaload, 1) ∧ 3011 + 1 = 3012 := ⟨dB_old_26_m41_5_dec_1.2.2.2.2.2.2.2.2.1, by decide⟩
theorem d_L_3012 : decode YL.2.1 3012 = .ok (.i2l, 1) ∧ 3012 + 1 = 3013 := ⟨dB_old_26_m41_5_dec_1.2.2.2.2.2.2.2.2.2.1, by decide⟩
theorem d_L_3013 : decode YL.2.1 3013 = .ok (.bipush 32, 2) ∧ 3013 + 2 = 3015 := ⟨dB_old_26_m41_5_dec_1.2.2.2.2.2.2.2.2.2.2.1, by decide⟩
theorem d_L_3015 : decode YL.2.1 3015 = .ok (.lshl, 1) ∧ 3015 + 1 = 3016 := ⟨dB_old_26_m41_5_dec_1.2.2.2.2.2.2.2.2.2.2.2.1, by decide⟩
theorem d_L_3016 : decode YL.2.1 3016 = .ok (.aload_n 0, 1) ∧ 3016 + 1 = 3017 := ⟨dB_old_26_m41_5_dec_1.2.2.2.2.2.2.2.2.2.2.2.2.1, by decide⟩
theorem d_L_3017 : decode YL.2.1 3017 = .ok (.iload_n 3, 1) ∧ 3017 + 1 = 3018 := ⟨dB_old_26_m41_5_dec_1.2.2.2.2.2.2.2.2.2.2.2.2.2.1, by decide⟩
theorem d_L_3018 : decode YL.2.1 3018 = .ok (.iconst 3, 1) ∧ 3018 + 1 = 3019 := ⟨dB_old_26_m41_5_dec_1.2.2.2.2.2.2.2.2.2.2.2.2.2.2.1, by decide⟩
theorem d_L_3019 : decode YL.2.1 3019 = .ok (.iadd, 1) ∧ 3019 + 1 = 3020 := ⟨dB_old_26_m41_5_dec_1.2.2.2.2.2.2.2.2.2.2.2.2.2.2.2.1, by decide⟩
theorem d_L_3020 : decode YL.2.1 3020 = .ok (.iaload, 1) ∧ 3020 + 1 = 3021 := ⟨dB_old_26_m41_5_dec_1.2.2.2.2.2.2.2.2.2.2.2.2.2.2.2.2.1, by decide⟩
theorem d_L_3021 : decode YL.2.1 3021 = .ok (.i2l, 1) ∧ 3021 + 1 = 3022 := ⟨dB_old_26_m41_5_dec_1.2.2.2.2.2.2.2.2.2.2.2.2.2.2.2.2.2.1, by decide⟩
theorem d_L_3022 : decode YL.2.1 3022 = .ok (.ldc2_w 13, 3) ∧ 3022 + 3 = 3025 := ⟨dB_old_26_m41_5_dec_1.2.2.2.2.2.2.2.2.2.2.2.2.2.2.2.2.2.2.1, by decide⟩
theorem d_L_3025 : decode YL.2.1 3025 = .ok (.land, 1) ∧ 3025 + 1 = 3026 := ⟨dB_old_26_m41_5_dec_1.2.2.2.2.2.2.2.2.2.2.2.2.2.2.2.2.2.2.2.1, by decide⟩
theorem d_L_3026 : decode YL.2.1 3026 = .ok (.lor, 1) ∧ 3026 + 1 = 3027 := ⟨dB_old_26_m41_5_dec_1.2.2.2.2.2.2.2.2.2.2.2.2.2.2.2.2.2.2.2.2.1, by decide⟩
theorem d_L_3027 : decode YL.2.1 3027 = .ok (.invokevirtual 307, 3) ∧ 3027 + 3 = 3030 := ⟨dB_old_26_m41_5_dec_1.2.2.2.2.2.2.2.2.2.2.2.2.2.2.2.2.2.2.2.2.2.1, by decide⟩
theorem d_L_3030 : decode YL.2.1 3030 = .ok (.pop2, 1) ∧ 3030 + 1 = 3031 := ⟨dB_old_26_m41_5_dec_1.2.2.2.2.2.2.2.2.2.2.2.2.2.2.2.2.2.2.2.2.2.2.1, by decide⟩
theorem d_L_3031 : decode YL.2.1 3031 = .ok (.goto 445, 3) ∧ ((3031 : Nat) : Int) + 445 = ((3476 : Nat) : Int) ∧ 3031 + 3 = 3034 := ⟨dB_old_26_m41_5_dec_1.2.2.2.2.2.2.2.2.2.2.2.2.2.2.2.2.2.2.2.2.2.2.2.1, by decide⟩
theorem d_L_3034 : decode YL.2.1 3034 = .ok (.aload_n 1, 1) ∧ 3034 + 1 = 3035 := ⟨dB_old_26_m41_5_dec_1.2.2.2.2.2.2.2.2.2.2.2.2.2.2.2.2.2.2.2.2.2.2.2.2.1, by decide⟩
theorem d_L_3035 : decode YL.2.1 3035 = .ok (.aload_n 0, 1) ∧ 3035 + 1 = 3036 := ⟨dB_old_26_m41_5_dec_1.2.2.2.2.2.2.2.2.2.2.2.2.2.2.2.2.2.2.2.2.2.2.2.2.2.1, by decide⟩
theorem d_L_3036 : decode YL.2.1 3036 = .ok (.iload_n 3, 1) ∧ 3036 + 1 = 3037 := ⟨dB_old_26_m41_5_dec_1.2.2.2.2.2.2.2.2.2.2.2.2.2.2.2.2.2.2.2.2.2.2.2.2.2.2.1, by decide⟩
theorem d_L_3037 : decode YL.2.1 3037 = .ok (.iconst 1, 1) ∧ 3037 + 1 = 3038 := ⟨dB_old_26_m41_5_dec_1.2.2.2.2.2.2.2.2.2.2.2.2.2.2.2.2.2.2.2.2.2.2.2.2.2.2.2.1, by decide⟩
theorem d_L_3038 : decode YL.2.1 3038 = .ok (.iadd, 1) ∧ 3038 + 1 = 3039 := ⟨dB_old_26_m41_5_dec_1.2.2.2.2.2.2.2.2.2.2.2.2.2.2.2.2.2.2.2.2.2.2.2.2.2.2.2.2.1, by decide⟩
theorem d_L_3039 : decode YL.2.1 3039 = .ok (.iaload, 1) ∧ 3039 + 1 = 3040 := ⟨dB_old_26_m41_5_dec_1.2.2.2.2.2.2.2.2.2.2.2.2.2.2.2.2.2.2.2.2.2.2.2.2.2.2.2.2.2.1, by decide⟩
theorem dB_old_26_m41_5_dec_2 : dAll YL.2.1 [(3040, (.aload_n 0, 1)), (3041, (.iload_n 3, 1)), (3042, (.iconst 2, 1)), (3043, (.iadd, 1)), (3044, (.iaload, 1)), (3045, (.invokevirtual 308, 3)), (3048, (.pop, 1)), (3049, (.aload_n 2, 1)), (3050, (.aload_n 0, 1)), (3051, (.iload_n 3, 1)), (3052, (.iconst 1, 1)), (3053, (.iadd, 1)), (3054, (.iaload, 1)), (3055, (.aload_n 0, 1)), (3056, (.iload_n 3, 1)), (3057, (.iconst 2, 1)), (3058, (.iadd, 1)), (3059, (.iaload, 1)), (3060, (.invokevirtual 311, 3)), (3063, (.pop, 1)), (3064, (.goto 412, 3)), (3067, (.aload_n 1, 1)), (3068, (.aload_n 0, 1)), (3069, (.iload_n 3, 1)), (3070, (.iconst 1, 1)), (3071, (.iadd, 1)), (3072, (.iaload, 1)), (3073, (.aload_n 0, 1)), (3074, (.iload_n 3, 1)), (3075, (.iconst 2, 1))] := dAll_of (by decide +kernel)
theorem d_L_3040 : decode YL.2.1 3040 = .ok (.aload_n 0, 1) ∧ 3040 + 1 = 3041 := ⟨dB_old_26_m41_5_dec_2.1, by decide⟩
theorem d_L_3041 : decode YL.2.1 3041 = .ok (.iload_n 3, 1) ∧ 3041 + 1 = 3042 := ⟨dB_old_26_m41_5_dec_2.2.1, by decide⟩
theorem d_L_3042 : decode YL.2.1 3042 = .ok (.iconst 2, 1) ∧ 3042 + 1 = 3043 := ⟨dB_old_26_m41_5_dec_2.2.2.1, by decide⟩
theorem d_L_3043 : decode YL.2.1 3043 = .ok (.iadd, 1) ∧ 3043 + 1 = 3044 := ⟨dB_old_26_m41_5_dec_2.2.2.2.1, by decide⟩
theorem d_L_3044 : decode YL.2.1 3044 = .ok (.iaload, 1) ∧ 3044 + 1 = 3045 := ⟨dB_old_26_m41_5_dec_2.2.2.2.2.1, by decide⟩
theorem d_L_3045 : decode YL.2.1 3045 = .ok (.invokevirtual 308, 3) ∧ 3045 + 3 = 3048 := ⟨dB_old_26_m41_5_dec_2.2.2.2.2.2.1, by decide⟩
theorem d_L_3048 : decode YL.2.1 3048 = .ok (.pop, 1) ∧ 3048 + 1 = 3049 := ⟨dB_old_26_m41_5_dec_2.2.2.2.2.2.2.1, by decide⟩
theorem d_L_3049 : decode YL.2.1 3049 = .ok (.aload_n 2, 1) ∧ 3049 + 1 = 3050 := ⟨dB_old_26_m41_5_dec_2.2.2.2.2.2.2.2.1, by decide⟩
theorem d_L_3050 : decode YL.2.1 3050 = .ok (.aload_n 0, 1) ∧ 3050 + 1 = 3051 := ⟨dB_old_26_m41_5_dec_2.2.2.2.2.2.2.2.2.1, by decide⟩
theorem d_L_3051 : decode YL.2.1 3051 = .ok (.iload_n 3, 1) ∧ 3051 + 1 = 3052 := ⟨dB_old_26_m41_5_dec_2.2.2.2.2.2.2.2.2.2.1, by decide⟩
theorem d_L_3052 : decode YL.2.1 3052 = .ok (.iconst 1, 1) ∧ 3052 + 1 = 3053 := ⟨dB_old_26_m41_5_dec_2.2.2.2.2.2.2.2.2.2.2.1, by decide⟩
theorem d_L_3053 : decode YL.2.1 3053 = .ok (.iadd, 1) ∧ 3053 + 1 = 3054 := ⟨dB_old_26_m41_5_dec_2.2.2.2.2.2.2.2.2.2.2.2.1, by decide⟩
theorem d_L_3054 : decode YL.2.1 3054 = .ok (.iaload, 1) ∧ 3054 + 1 = 3055 := ⟨dB_old_26_m41_5_dec_2.2.2.2.2.2.2.2.2.2.2.2.2.1, by decide⟩
theorem d_L_3055 : decode YL.2.1 3055 = .ok (.aload_n 0, 1) ∧ 3055 + 1 = 3056 := ⟨dB_old_26_m41_5_dec_2.2.2.2.2.2.2.2.2.2.2.2.2.2.1, by decide⟩
theorem d_L_3056 : decode YL.2.1 3056 = .ok (.iload_n 3, 1) ∧ 3056 + 1 = 3057 := ⟨dB_old_26_m41_5_dec_2.2.2.2.2.2.2.2.2.2.2.2.2.2.2.1, by decide⟩
theorem d_L_3057 : decode YL.2.1 3057 = .ok (.iconst 2, 1) ∧ 3057 + 1 = 3058 := ⟨dB_old_26_m41_5_dec_2.2.2.2.2.2.2.2.2.2.2.2.2.2.2.2.1, by decide⟩
theorem d_L_3058 : decode YL.2.1 3058 = .ok (.iadd, 1) ∧ 3058 + 1 = 3059 := ⟨dB_old_26_m41_5_dec_2.2.2.2.2.2.2.2.2.2.2.2.2.2.2.2.2.1, by decide⟩
theorem d_L_3059 : decode YL.2.1 3059 = .ok (.iaload, 1) ∧ 3059 + 1 = 3060 := ⟨dB_old_26_m41_5_dec_2.2.2.2.2.2.2.2.2.2.2.2.2.2.2.2.2.2.1, by decide⟩
theorem d_L_3060 : decode YL.2.1 3060 = .ok (.invokevirtual 311, 3) ∧ 3060 + 3 = 3063 := ⟨dB_old_26_m41_5_dec_2.2.2.2.2.2.2.2.2.2.2.2.2.2.2.2.2.2.2.1, by decide⟩
theorem d_L_3063 : decode YL.2.1 3063 = .ok (.pop, 1) ∧ 3063 + 1 = 3064 := ⟨dB_old_26_m41_5_dec_2.2.2.2.2.2.2.2.2.2.2.2.2.2.2.2.2.2.2.2.1, by decide⟩
theorem d_L_3064 : decode YL.2.1 3064 = .ok (.goto 412, 3) ∧ ((3064 : Nat) : Int) + 412 = ((3476 : Nat) : Int) ∧ 3064 + 3 = 3067 := ⟨dB_old_26_m41_5_dec_2.2.2.2.2.2.2.2.2.2.2.2.2.2.2.2.2.2.2.2.2.1, by decide⟩
theorem d_L_3067 : decode YL.2.1 3067 = .ok (.aload_n 1, 1) ∧ 3067 + 1 = 3068 := ⟨dB_old_26_m41_5_dec_2.2.2.2.2.2.2.2.2.2.2.2.2.2.2.2.2.2.2.2.2.2.1, by decide⟩
theorem d_L_3068 : decode YL.2.1 3068 = .ok (.aload_n 0, 1) ∧ 3068 + 1 = 3069 := ⟨dB_old_26_m41_5_dec_2.2.2.2.2.2.2.2.2.2.2.2.2.2.2.2.2.2.2.2.2.2.2.1, by decide⟩
theorem d_L_3069 : decode YL.2.1 3069 = .ok (.iload_n 3, 1) ∧ 3069 + 1 = 3070 := ⟨dB_old_26_m41_5_dec_2.2.2.2.2.2.2.2.2.2.2.2.2.2.2.2.2.2.2.2.2.2.2.2.1, by decide⟩
theorem d_L_3070 : decode YL.2.1 3070 = .ok (.iconst 1, 1) ∧ 3070 + 1 = 3071 := ⟨dB_old_26_m41_5_dec_2.2.2.2.2.2.2.2.2.2.2.2.2.2.2.2.2.2.2.2.2.2.2.2.2.1, by decide⟩
theorem d_L_3071 : decode YL.2.1 3071 = .ok (.iadd, 1) ∧ 3071 + 1 = 3072 := ⟨dB_old_26_m41_5_dec_2.2.2.2.2.2.2.2.2.2.2.2.2.2.2.2.2.2.2.2.2.2.2.2.2.2.1, by decide⟩
theorem d_L_3072 : decode YL.2.1 3072 = .ok (.iaload, 1) ∧ 3072 + 1 = 3073 := ⟨dB_old_26_m41_5_dec_2.2.2.2.2.2.2.2.2.2.2.2.2.2.2.2.2.2.2.2.2.2.2.2.2.2.2.1, by decide⟩
theorem d_L_3073 : decode YL.2.1 3073 = .ok (.aload_n 0, 1) ∧ 3073 + 1 = 3074 := ⟨dB_old_26_m41_5_dec_2.2.2.2.2.2.2.2.2.2.2.2.2.2.2.2.2.2.2.2.2.2.2.2.2.2.2.2.1, by decide⟩
theorem d_L_3074 : decode YL.2.1 3074 = .ok (.iload_n 3, 1) ∧ 3074 + 1 = 3075 := ⟨dB_old_26_m41_5_dec_2.2.2.2.2.2.2.2.2.2.2.2.2.2.2.2.2.2.2.2.2.2.2.2.2.2.2.2.2.1, by decide⟩
theorem d_L_3075 : decode YL.2.1 3075 = .ok (.iconst 2, 1) ∧ 3075 + 1 = 3076 := ⟨dB_old_26_m41_5_dec_2.2.2.2.2.2.2.2.2.2.2.2.2.2.2.2.2.2.2.2.2.2.2.2.2.2.2.2.2.2.1, by decide⟩
theorem dB_old_26_m41_5_dec_3 : dAll YL.2.1 [(3076, (.iadd, 1)), (3077, (.iaload, 1)), (3078, (.invokevirtual 312, 3)), (3081, (.pop, 1)), (3082, (.aload_n 2, 1)), (3083, (.aload_n 0, 1)), (3084, (.iload_n 3, 1)), (3085, (.iconst 1, 1)), (3086, (.iadd, 1)), (3087, (.iaload, 1)), (3088, (.aload_n 0, 1)), (3089, (.iload_n 3, 1)), (3090, (.iconst 2, 1)), (3091, (.iadd, 1)), (3092, (.iaload, 1)), (3093, (.invokevirtual 315, 3)), (3096, (.pop, 1)), (3097, (.goto 379, 3)), (3100, (.aload_n 1, 1)), (3101, (.aload_n 0, 1)), (3102, (.iload_n 3, 1)), (3103, (.iconst 1, 1)), (3104, (.iadd, 1)), (3105, (.iaload, 1)), (3106, (.invokevirtual 316, 3)), (3109, (.pop, 1)), (3110, (.aload_n 2, 1)), (3111, (.aload_n 0, 1)), (3112, (.iload_n 3, 1)), (3113, (.iconst 1, 1))] := dAll_of (by decide +kernel)
theorem d_L_3076 : decode YL.2.1 3076 = .ok (.iadd, 1) ∧ 3076 + 1 = 3077 := ⟨dB_old_26_m41_5_dec_3.1, by decide⟩
theorem d_L_3077 : decode YL.2.1 3077 = .ok (.iaload, 1) ∧ 3077 + 1 = 3078 := ⟨dB_old_26_m41_5_dec_3.2.1, by decide⟩
theorem d_L_3078 : decode YL.2.1 3078 = .ok (.invokevirtual 312, 3) ∧ 3078 + 3 = 3081 := ⟨dB_old_26_m41_5_dec_3.2.2.1, by decide⟩
theorem d_L_3081 : decode YL.2.1 3081 = .ok (.pop, 1) ∧ 3081 + 1 = 3082 := ⟨dB_old_26_m41_5_dec_3.2.2.2.1, by decide⟩
theorem d_L_3082 : decode YL.2.1 3082 = .ok (.aload_n 2, 1) ∧ 3082 + 1 = 3083 := ⟨dB_old_26_m41_5_dec_3.2.2.2.2.1, by decide⟩
theorem d_L_3083 : decode YL.2.1 3083 = .ok (.aload_n 0, 1) ∧ 3083 + 1 = 3084 := ⟨dB_old_26_m41_5_dec_3.2.2.2.2.2.1, by decide⟩
theorem d_L_3084 : decode YL.2.1 3084 = .ok (.iload_n 3, 1) ∧ 3084 + 1 = 3085 := ⟨dB_old_26_m41_5_dec_3.2.2.2.2.2.2.1, by decide⟩
theorem d_L_3085 : decode YL.2.1 3085 = .ok (.iconst 1, 1) ∧ 3085 + 1 = 3086 := ⟨dB_old_26_m41_5_dec_3.2.2.2.2.2.2.2.1, by decide⟩
theorem d_L_3086 : decode YL.2.1 3086 = .ok (.iadd, 1) ∧ 3086 + 1 = 3087 := ⟨dB_old_26_m41_5_dec_3.2.2.2.2.2.2.2.2.1, by decide⟩
theorem d_L_3087 : decode YL.2.1 3087 = .ok (.iaload, 1) ∧ 3087 + 1 = 3088 := ⟨dB_old_26_m41_5_dec_3.2.2.2.2.2.2.2.2.2.1, by decide⟩
theorem d_L_3088 : decode YL.2.1 3088 = .ok (.aload_n 0, 1) ∧ 3088 + 1 = 3089 := ⟨dB_old_26_m41_5_dec_3.2.2.2.2.2.2.2.2.2.2.1, by decide⟩
theorem d_L_3089 : decode YL.2.1 3089 = .ok (.iload_n 3, 1) ∧ 3089 + 1 = 3090 := ⟨dB_old_26_m41_5_dec_3.2.2.2.2.2.2.2.2.2.2.2.1, by decide⟩
theorem d_L_3090 : decode YL.2.1 3090 = .ok (.iconst 2, 1) ∧ 3090 + 1 = 3091 := ⟨dB_old_26_m41_5_dec_3.2.2.2.2.2.2.2.2.2.2.2.2.1, by decide⟩
theorem d_L_3091 : decode YL.2.1 3091 = .ok (.iadd, 1) ∧ 3091 + 1 = 3092 := ⟨dB_old_26_m41_5_dec_3.2.2.2.2.2.2.2.2.2.2.2.2.2.1, by decide⟩
theorem d_L_3092 : decode YL.2.1 3092 = .ok (.iaload, 1) ∧ 3092 + 1 = 3093 := ⟨dB_old_26_m41_5_dec_3.2.2.2.2.2.2.2.2.2.2.2.2.2.2.1, by decide⟩
theorem d_L_3093 : decode YL.2.1 3093 = .ok (.invokevirtual 315, 3) ∧ 3093 + 3 = 3096 := ⟨dB_old_26_m41_5_dec_3.2.2.2.2.2.2.2.2.2.2.2.2.2.2.2.1, by decide⟩
theorem d_L_3096 : decode YL.2.1 3096 = .ok (.pop, 1) ∧ 3096 + 1 = 3097 := ⟨dB_old_26_m41_5_dec_3.2.2.2.2.2.2.2.2.2.2.2.2.2.2.2.2.1, by decide⟩
theorem d_L_3097 : decode YL.2.1 3097 = .ok (.goto 379, 3) ∧ ((3097 : Nat) : Int) + 379 = ((3476 : Nat) : Int) ∧ 3097 + 3 = 3100 := ⟨dB_old_26_m41_5_dec_3.2.2.2.2.2.2.2.2.2.2.2.2.2.2.2.2.2.1, by decide⟩
theorem d_L_3100 : decode YL.2.1 3100 = .ok (.aload_n 1, 1) ∧ 3100 + 1 = 3101 := ⟨dB_old_26_m41_5_dec_3.2.2.2.2.2.2.2.2.2.2.2.2.2.2.2.2.2.2.1, by decide⟩
theorem d_L_3101 : decode YL.2.1 3101 = .ok (.aload_n 0, 1) ∧ 3101 + 1 = 3102 := ⟨dB_old_26_m41_5_dec_3.2.2.2.2.2.2.2.2.2.2.2.2.2.2.2.2.2.2.2.1, by decide⟩
theorem d_L_3102 : decode YL.2.1 3102 = .ok (.iload_n 3, 1) ∧ 3102 + 1 = 3103 := ⟨dB_old_26_m41_5_dec_3.2.2.2.2.2.2.2.2.2.2.2.2.2.2.2.2.2.2.2.2.1, by decide⟩
theorem d_L_3103 : decode YL.2.1 3103 = .ok (.iconst 1, 1) ∧ 3103 + 1 = 3104 := ⟨dB_old_26_m41_5_dec_3.2.2.2.2.2.2.2.2.2.2.2.2.2.2.2.2.2.2.2.2.2.1, by decide⟩
theorem d_L_3104 : decode YL.2.1 3104 = .ok (.iadd, 1) ∧ 3104 + 1 = 3105 := ⟨dB_old_26_m41_5_dec_3.2.2.2.2.2.2.2.2.2.2.2.2.2.2.2.2.2.2.2.2.2.2.1, by decide⟩
theorem d_L_3105 : decode YL.2.1 3105 = .ok (.iaload, 1) ∧ 3105 + 1 = 3106 := ⟨dB_old_26_m41_5_dec_3.2.2.2.2.2.2.2.2.2.2.2.2.2.2.2.2.2.2.2.2.2.2.2.1, by decide⟩
theorem d_L_3106 : decode YL.2.1 3106 = .ok (.invokevirtual 316, 3) ∧ 3106 + 3 = 3109 := ⟨dB_old_26_m41_5_dec_3.2.2.2.2.2.2.2.2.2.2.2.2.2.2.2.2.2.2.2.2.2.2.2.2.1, by decide⟩
theorem d_L_3109 : decode YL.2.1 3109 = .ok (.pop, 1) ∧ 3109 + 1 = 3110 := ⟨dB_old_26_m41_5_dec_3.2.2.2.2.2.2.2.2.2.2.2.2.2.2.2.2.2.2.2.2.2.2.2.2.2.1, by decide⟩
theorem d_L_3110 : decode YL.2.1 3110 = .ok (.aload_n 2, 1) ∧ 3110 + 1 = 3111 := ⟨dB_old_26_m41_5_dec_3.2.2.2.2.2.2.2.2.2.2.2.2.2.2.2.2.2.2.2.2.2.2.2.2.2.2.1, by decide⟩
theorem d_L_3111 : decode YL.2.1 3111 = .ok (.aload_n 0, 1) ∧ 3111 + 1 = 3112 := ⟨dB_old_26_m41_5_dec_3.2.2.2.2.2.2.2.2.2.2.2.2.2.2.2.2.2.2.2.2.2.2.2.2.2.2.2.1, by decide⟩
theorem d_L_3112 : decode YL.2.1 3112 = .ok (.iload_n 3, 1) ∧ 3112 + 1 = 3113 := ⟨dB_old_26_m41_5_dec_3.2.2.2.2.2.2.2.2.2.2.2.2.2.2.2.2.2.2.2.2.2.2.2.2.2.2.2.2.1, by decide⟩
theorem d_L_3113 : decode YL.2.1 3113 = .ok (.iconst 1, 1) ∧ 3113 + 1 = 3114 := ⟨dB_old_26_m41_5_dec_3.2.2.2.2.2.2.2.2.2.2.2.2.2.2.2.2.2.2.2.2.2.2.2.2.2.2.2.2.2.1, by decide⟩
theorem dB_old_26_m41_5_dec_4 : dAll YL.2.1 [(3114, (.iadd, 1)), (3115, (.iaload, 1)), (3116, (.invokevirtual 319, 3)), (3119, (.pop, 1)), (3120, (.goto 356, 3)), (3123, (.aload_n 1, 1)), (3124, (.aload_n 0, 1)), (3125, (.iload_n 3, 1)), (3126, (.iconst 1, 1)), (3127, (.iadd, 1)), (3128, (.iaload, 1)), (3129, (.invokevirtual 320, 3)), (3132, (.pop, 1)), (3133, (.aload_n 2, 1)), (3134, (.aload_n 0, 1)), (3135, (.iload_n 3, 1)), (3136, (.iconst 1, 1)), (3137, (.iadd, 1)), (3138, (.iaload, 1)), (3139, (.invokevirtual 323, 3)), (3142, (.pop, 1)), (3143, (.goto 333, 3)), (3146, (.aload_n 1, 1)), (3147, (.aload_n 0, 1)), (3148, (.iload_n 3, 1)), (3149, (.iconst 1, 1)), (3150, (.iadd, 1)), (3151, (.iaload, 1)), (3152, (.aload_n 0, 1)), (3153, (.iload_n 3, 1))] := dAll_of (by decide +kernel)
theorem d_L_3114 : decode YL.2.1 3114 = .ok (.iadd, 1) ∧ 3114 + 1 = 3115 := ⟨dB_old_26_m41_5_dec_4.1, by decide⟩
theorem d_L_3115 : decode YL.2.1 3115 = .ok (.iaload, 1) ∧ 3115 + 1 = 3116 := ⟨dB_old_26_m41_5_dec_4.2.1, by decide⟩
theorem d_L_3116 : decode YL.2.1 3116 = .ok (.invokevirtual 319, 3) ∧ 3116 + 3 = 3119 := ⟨dB_old_26_m41_5_dec_4.2.2.1, by decide⟩
theorem d_L_3119 : decode YL.2.1 3119 = .ok (.pop, 1) ∧ 3119 + 1 = 3120 := ⟨dB_old_26_m41_5_dec_4.2.2.2.1, by decide⟩
theorem d_L_3120 : decode YL.2.1 3120 = .ok (.goto 356, 3) ∧ ((3120 : Nat) : Int) + 356 = ((3476 : Nat) : Int) ∧ 3120 + 3 = 3123 := ⟨dB_old_26_m41_5_dec_4.2.2.2.2.1, by decide⟩
theorem d_L_3123 : decode YL.2.1 3123 = .ok (.aload_n 1, 1) ∧ 3123 + 1 = 3124 := ⟨dB_old_26_m41_5_dec_4.2.2.2.2.2.1, by decide⟩
theorem d_L_3124 : decode YL.2.1 3124 = .ok (.aload_n 0, 1) ∧ 3124 + 1 = 3125 := ⟨dB_old_26_m41_5_dec_4.2.2.2.2.2.2.1, by decide⟩
theorem d_L_3125 : decode YL.2.1 3125 = .ok (.iload_n 3, 1) ∧ 3125 + 1 = 3126 := ⟨dB_old_26_m41_5_dec_4.2.2.2.2.2.2.2.1, by decide⟩
theorem d_L_3126 : decode YL.2.1 3126 = .ok (.iconst 1, 1) ∧ 3126 + 1 = 3127 := ⟨dB_old_26_m41_5_dec_4.2.2.2.2.2.2.2.2.1, by decide⟩
theorem d_L_3127 : decode YL.2.1 3127 = .ok (.iadd, 1) ∧ 3127 + 1 = 3128 := ⟨dB_old_26_m41_5_dec_4.2.2.2.2.2.2.2.2.2.1, by decide⟩
theorem d_L_3128 : decode YL.2.1 3128 = .ok (.iaload, 1) ∧ 3128 + 1 = 3129 := ⟨dB_old_26_m41_5_dec_4.2.2.2.2.2.2.2.2.2.2.1, by decide⟩
theorem d_L_3129 : decode YL.2.1 3129 = .ok (.invokevirtual 320, 3) ∧ 3129 + 3 = 3132 := ⟨dB_old_26_m41_5_dec_4.2.2.2.2.2.2.2.2.2.2.2.1, by decide⟩
theorem d_L_3132 : decode YL.2.1 3132 = .ok (.pop, 1) ∧ 3132 + 1 = 3133 := ⟨dB_old_26_m41_5_dec_4.2.2.2.2.2.2.2.2.2.2.2.2.1, by decide⟩
theorem d_L_3133 : decode YL.2.1 3133 = .ok (.aload_n 2, 1) ∧ 3133 + 1 = 3134 := ⟨dB_old_26_m41_5_dec_4.2.2.2.2.2.2.2.2.2.2.2.2.2.1, by decide⟩
theorem d_L_3134 : decode YL.2.1 3134 = .ok (.aload_n 0, 1) ∧ 3134 + 1 = 3135 := ⟨dB_old_26_m41_5_dec_4.2.2.2.2.2.2.2.2.2.2.2.2.2.2.1, by decide⟩
theorem d_L_3135 : decode YL.2.1 3135 = .ok (.iload_n 3, 1) ∧ 3135 + 1 = 3136 := ⟨dB_old_26_m41_5_dec_4.2.2.2.2.2.2.2.2.2.2.2.2.2.2.2.1, by decide⟩
theorem d_L_3136 : decode YL.2.1 3136 = .ok (.iconst 1, 1) ∧ 3136 + 1 = 3137 := ⟨dB_old_26_m41_5_dec_4.2.2.2.2.2.2.2.2.2.2.2.2.2.2.2.2.1, by decide⟩
theorem d_L_3137 : decode YL.2.1 3137 = .ok (.iadd, 1) ∧ 3137 + 1 = 3138 := ⟨dB_old_26_m41_5_dec_4.2.2.2.2.2.2.2.2.2.2.2.2.2.2.2.2.2.1, by decide⟩
theorem d_L_3138 : decode YL.2.1 3138 = .ok (.iaload, 1) ∧ 3138 + 1 = 3139 := ⟨dB_old_26_m41_5_dec_4.2.2.2.2.2.2.2.2.2.2.2.2.2.2.2.2.2.2.1, by decide⟩
theorem d_L_3139 : decode YL.2.1 3139 = .ok (.invokevirtual 323, 3) ∧ 3139 + 3 = 3142 := ⟨dB_old_26_m41_5_dec_4.2.2.2.2.2.2.2.2.2.2.2.2.2.2.2.2.2.2.2.1, by decide⟩
theorem d_L_3142 : decode YL.2.1 3142 = .ok (.pop, 1) ∧ 3142 + 1 = 3143 := ⟨dB_old_26_m41_5_dec_4.2.2.2.2.2.2.2.2.2.2.2.2.2.2.2.2.2.2.2.2.1, by decide⟩
theorem d_L_3143 : decode YL.2.1 3143 = .ok (.goto 333, 3) ∧ ((3143 : Nat) : Int) + 333 = ((3476 : Nat) : Int) ∧ 3143 + 3 = 3146 := ⟨dB_old_26_m41_5_dec_4.2.2.2.2.2.2.2.2.2.2.2.2.2.2.2.2.2.2.2.2.2.1, by decide⟩
theorem d_L_3146 : decode YL.2.1 3146 = .ok (.aload_n 1, 1) ∧ 3146 + 1 = 3147 := ⟨dB_old_26_m41_5_dec_4.2.2.2.2.2.2.2.2.2.2.2.2.2.2.2.2.2.2.2.2.2.2.1, by decide⟩
theorem d_L_3147 : decode YL.2.1 3147 = .ok (.aload_n 0, 1) ∧ 3147 + 1 = 3148 := ⟨dB_old_26_m41_5_dec_4.2.2.2.2.2.2.2.2.2.2.2.2.2.2.2.2.2.2.2.2.2.2.2.1, by decide⟩
theorem d_L_3148 : decode YL.2.1 3148 = .ok (.iload_n 3, 1) ∧ 3148 + 1 = 3149 := ⟨dB_old_26_m41_5_dec_4.2.2.2.2.2.2.2.2.2.2.2.2.2.2.2.2.2.2.2.2.2.2.2.2.1, by decide⟩
theorem d_L_3149 : decode YL.2.1 3149 = .ok (.iconst 1, 1) ∧ 3149 + 1 = 3150 := ⟨dB_old_26_m41_5_dec_4.2.2.2.2.2.2.2.2.2.2.2.2.2.2.2.2.2.2.2.2.2.2.2.2.2.1, by decide⟩
theorem d_L_3150 : decode YL.2.1 3150 = .ok (.iadd, 1) ∧ 3150 + 1 = 3151 := ⟨dB_old_26_m41_5_dec_4.2.2.2.2.2.2.2.2.2.2.2.2.2.2.2.2.2.2.2.2.2.2.2.2.2.2.1, by decide⟩
theorem d_L_3151 : decode YL.2.1 3151 = .ok (.iaload, 1) ∧ 3151 + 1 = 3152 := ⟨dB_old_26_m41_5_dec_4.2.2.2.2.2.2.2.2.2.2.2.2.2.2.2.2.2.2.2.2.2.2.2.2.2.2.2.1, by decide⟩
theorem d_L_3152 : decode YL.2.1 3152 = .ok (.aload_n 0, 1) ∧ 3152 + 1 = 3153 := ⟨dB_old_26_m41_5_dec_4.2.2.2.2.2.2.2.2.2.2.2.2.2.2.2.2.2.2.2.2.2.2.2.2.2.2.2.2.1, by decide⟩
theorem d_L_3153 : decode YL.2.1 3153 = .ok (.iload_n 3, 1) ∧ 3153 + 1 = 3154 := ⟨dB_old_26_m41_5_dec_4.2.2.2.2.2.2.2.2.2.2.2.2.2.2.2.2.2.2.2.2.2.2.2.2.2.2.2.2.2.1, by decide⟩
theorem dB_old_26_m41_5_dec_5 : dAll YL.2.1 [(3154, (.iconst 2, 1)), (3155, (.iadd, 1)), (3156, (.iaload, 1)), (3157, (.aload_n 0, 1)), (3158, (.iload_n 3, 1)), (3159, (.iconst 3, 1)), (3160, (.iadd, 1)), (3161, (.iaload, 1)), (3162, (.aload_n 0, 1)), (3163, (.iload_n 3, 1)), (3164, (.iconst 4, 1)), (3165, (.iadd, 1)), (3166, (.iaload, 1)), (3167, (.invokevirtual 324, 3)), (3170, (.pop, 1)), (3171, (.aload_n 2, 1)), (3172, (.aload_n 0, 1)), (3173, (.iload_n 3, 1)), (3174, (.iconst 1, 1)), (3175, (.iadd, 1)), (3176, (.iaload, 1)), (3177, (.aload_n 0, 1)), (3178, (.iload_n 3, 1)), (3179, (.iconst 2, 1)), (3180, (.iadd, 1)), (3181, (.iaload, 1)), (3182, (.aload_n 0, 1)), (3183, (.iload_n 3, 1)), (3184, (.iconst 3, 1)), (3185, (.iadd, 1))] := dAll_of (by decide +kernel)
theorem d_L_3154 : decode YL.2.1 3154 = .ok (.iconst 2, 1) ∧ 3154 + 1 = 3155 := ⟨dB_old_26_m41_5_dec_5.1, by decide⟩
theorem d_L_3155 : decode YL.2.1 3155 = .ok (.iadd, 1) ∧ 3155 + 1 = 3156 := ⟨dB_old_26_m41_5_dec_5.2.1, by decide⟩
theorem d_L_3156 : decode YL.2.1 3156 = .ok (.iaload, 1) ∧ 3156 + 1 = 3157 := ⟨dB_old_26_m41_5_dec_5.2.2.1, by decide⟩
theorem d_L_3157 : decode YL.2.1 3157 = .ok (.aload_n 0, 1) ∧ 3157 + 1 = 3158 := ⟨dB_old_26_m41_5_dec_5.2.2.2.1, by decide⟩
theorem d_L_3158 : decode YL.2.1 3158 = .ok (.iload_n 3, 1) ∧ 3158 + 1 = 3159 := ⟨dB_old_26_m41_5_dec_5.2.2.2.2.1, by decide⟩
theorem d_L_3159 : decode YL.2.1 3159 = .ok (.iconst 3, 1) ∧ 3159 + 1 = 3160 := ⟨dB_old_26_m41_5_dec_5.2.2.2.2.2.1, by decide⟩
theorem d_L_3160 : decode YL.2.1 3160 = .ok (.iadd, 1) ∧ 3160 + 1 = 3161 := ⟨dB_old_26_m41_5_dec_5.2.2.2.2.2.2.1, by decide⟩
theorem d_L_3161 : decode YL.2.1 3161 = .ok (.iaload, 1) ∧ 3161 + 1 = 3162 := ⟨dB_old_26_m41_5_dec_5.2.2.2.2.2.2.2.1, by decide⟩
theorem d_L_3162 : decode YL.2.1 3162 = .ok (.aload_n 0, 1) ∧ 3162 + 1 = 3163 := ⟨dB_old_26_m41_5_dec_5.2.2.2.2.2.2.2.2.1, by decide⟩
theorem d_L_3163 : decode YL.2.1 3163 = .ok (.iload_n 3, 1) ∧ 3163 + 1 = 3164 := ⟨dB_old_26_m41_5_dec_5.2.2.2.2.2.2.2.2.2.1, by decide⟩
theorem d_L_3164 : decode YL.2.1 3164 = .ok (.iconst 4, 1) ∧ 3164 + 1 = 3165 := ⟨dB_old_26_m41_5_dec_5.2.2.2.2.2.2.2.2.2.2.1, by decide⟩
theorem d_L_3165 : decode YL.2.1 3165 = .ok (.iadd, 1) ∧ 3165 + 1 = 3166 := ⟨dB_old_26_m41_5_dec_5.2.2.2.2.2.2.2.2.2.2.2.1, by decide⟩
theorem d_L_3166 : decode YL.2.1 3166 = .ok (.iaload, 1) ∧ 3166 + 1 = 3167 := ⟨dB_old_26_m41_5_dec_5.2.2.2.2.2.2.2.2.2.2.2.2.1, by decide⟩
theorem d_L_3167 : decode YL.2.1 3167 = .ok (.invokevirtual 324, 3) ∧ 3167 + 3 = 3170 := ⟨dB_old_26_m41_5_dec_5.2.2.2.2.2.2.2.2.2.2.2.2.2.1, by decide⟩
theorem d_L_3170 : decode YL.2.1 3170 = .ok (.pop, 1) ∧ 3170 + 1 = 3171 := ⟨dB_old_26_m41_5_dec_5.2.2.2.2.2.2.2.2.2.2.2.2.2.2.1, by decide⟩
theorem d_L_3171 : decode YL.2.1 3171 = .ok (.aload_n 2, 1) ∧ 3171 + 1 = 3172 := ⟨dB_old_26_m41_5_dec_5.2.2.2.2.2.2.2.2.2.2.2.2.2.2.2.1, by decide⟩
theorem d_L_3172 : decode YL.2.1 3172 = .ok (.aload_n 0, 1) ∧ 3172 + 1 = 3173 := ⟨dB_old_26_m41_5_dec_5.2.2.2.2.2.2.2.2.2.2.2.2.2.2.2.2.1, by decide⟩
theorem d_L_3173 : decode YL.2.1 3173 = .ok (.iload_n 3, 1) ∧ 3173 + 1 = 3174 := ⟨dB_old_26_m41_5_dec_5.2.2.2.2.2.2.2.2.2.2.2.2.2.2.2.2.2.1, by decide⟩
theorem d_L_3174 : decode YL.2.1 3174 = .ok (.iconst 1, 1) ∧ 3174 + 1 = 3175 := ⟨dB_old_26_m41_5_dec_5.2.2.2.2.2.2.2.2.2.2.2.2.2.2.2.2.2.2.1, by decide⟩
theorem d_L_3175 : decode YL.2.1 3175 = .ok (.iadd, 1) ∧ 3175 + 1 = 3176 := ⟨dB_old_26_m41_5_dec_5.2.2.2.2.2.2.2.2.2.2.2.2.2.2.2.2.2.2.2.1, by decide⟩
theorem d_L_3176 : decode YL.2.1 3176 = .ok (.iaload, 1) ∧ 3176 + 1 = 3177 := ⟨dB_old_26_m41_5_dec_5.2.2.2.2.2.2.2.2.2.2.2.2.2.2.2.2.2.2.2.2.1, by decide⟩
theorem d_L_3177 : decode YL.2.1 3177 = .ok (.aload_n 0, 1) ∧ 3177 + 1 = 3178 := ⟨dB_old_26_m41_5_dec_5.2.2.2.2.2.2.2.2.2.2.2.2.2.2.2.2.2.2.2.2.2.1, by decide⟩
theorem d_L_3178 : decode YL.2.1 3178 = .ok (.iload_n 3, 1) ∧ 3178 + 1 = 3179 := ⟨dB_old_26_m41_5_dec_5.2.2.2.2.2.2.2.2.2.2.2.2.2.2.2.2.2.2.2.2.2.2.1, by decide⟩
theorem d_L_3179 : decode YL.2.1 3179 = .ok (.iconst 2, 1) ∧ 3179 + 1 = 3180 := ⟨dB_old_26_m41_5_dec_5.2.2.2.2.2.2.2.2.2.2.2.2.2.2.2.2.2.2.2.2.2.2.2.1, by decide⟩
theorem d_L_3180 : decode YL.2.1 3180 = .ok (.iadd, 1) ∧ 3180 + 1 = 3181 := ⟨dB_old_26_m41_5_dec_5.2.2.2.2.2.2.2.2.2.2.2.2.2.2.2.2.2.2.2.2.2.2.2.2.1, by decide⟩
theorem d_L_3181 : decode YL.2.1 3181 = .ok (.iaload, 1) ∧ 3181 + 1 = 3182 := ⟨dB_old_26_m41_5_dec_5.2.2.2.2.2.2.2.2.2.2.2.2.2.2.2.2.2.2.2.2.2.2.2.2.2.1, by decide⟩
theorem d_L_3182 : decode YL.2.1 3182 = .ok (.aload_n 0, 1) ∧ 3182 + 1 = 3183 := ⟨dB_old_26_m41_5_dec_5.2.2.2.2.2.2.2.2.2.2.2.2.2.2.2.2.2.2.2.2.2.2.2.2.2.2.1, by decide⟩
theorem d_L_3183 : decode YL.2.1 3183 = .ok (.iload_n 3, 1) ∧ 3183 + 1 = 3184 := ⟨dB_old_26_m41_5_dec_5.2.2.2.2.2.2.2.2.2.2.2.2.2.2.2.2.2.2.2.2.2.2.2.2.2.2.2.1, by decide⟩
theorem d_L_3184 : decode YL.2.1 3184 = .ok (.iconst 3, 1) ∧ 3184 + 1 = 3185 := ⟨dB_old_26_m41_5_dec_5.2.2.2.2.2.2.2.2.2.2.2.2.2.2.2.2.2.2.2.2.2.2.2.2.2.2.2.2.1, by decide⟩
theorem d_L_3185 : decode YL.2.1 3185 = .ok (.iadd, 1) ∧ 3185 + 1 = 3186 := ⟨dB_old_26_m41_5_dec_5.2.2.2.2.2.2.2.2.2.2.2.2.2.2.2.2.2.2.2.2.2.2.2.2.2.2.2.2.2.1, by decide⟩
theorem dB_old_26_m41_5_dec_6 : dAll YL.2.1 [(3186, (.iaload, 1)), (3187, (.aload_n 0, 1)), (3188, (.iload_n 3, 1)), (3189, (.iconst 4, 1)), (3190, (.iadd, 1)), (3191, (.iaload, 1)), (3192, (.invokevirtual 327, 3)), (3195, (.pop, 1)), (3196, (.goto 280, 3)), (3199, (.aload_n 1, 1)), (3200, (.aload_n 0, 1)), (3201, (.iload_n 3, 1)), (3202, (.iconst 1, 1)), (3203, (.iadd, 1)), (3204, (.iaload, 1)), (3205, (.aload_n 0, 1)), (3206, (.iload_n 3, 1)), (3207, (.iconst 2, 1)), (3208, (.iadd, 1)), (3209, (.iaload, 1)), (3210, (.invokevirtual 328, 3)), (3213, (.pop, 1)), (3214, (.aload_n 2, 1)), (3215, (.aload_n 0, 1)), (3216, (.iload_n 3, 1)), (3217, (.iconst 1, 1)), (3218, (.iadd, 1)), (3219, (.iaload, 1)), (3220, (.aload_n 0, 1)), (3221, (.iload_n 3, 1))] := dAll_of (by decide +kernel)
theorem d_L_3186 : decode YL.2.1 3186 = .ok (.iaload, 1) ∧ 3186 + 1 = 3187 := ⟨dB_old_26_m41_5_dec_6.1, by decide⟩
theorem d_L_3187 : decode YL.2.1 3187 = .ok (.aload_n 0, 1) ∧ 3187 + 1 = 3188 := ⟨dB_old_26_m41_5_dec_6.2.1, by decide⟩
theorem d_L_3188 : decode YL.2.1 3188 = .ok (.iload_n 3, 1) ∧ 3188 + 1 = 3189 := ⟨dB_old_26_m41_5_dec_6.2.2.1, by decide⟩
theorem d_L_3189 : decode YL.2.1 3189 = .ok (.iconst 4, 1) ∧ 3189 + 1 = 3190 := ⟨dB_old_26_m41_5_dec_6.2.2.2.1, by decide⟩
theorem d_L_3190 : decode YL.2.1 3190 = .ok (.iadd, 1) ∧ 3190 + 1 = 3191 := ⟨dB_old_26_m41_5_dec_6.2.2.2.2.1, by decide⟩
theorem d_L_3191 : decode YL.2.1 3191 = .ok (.iaload, 1) ∧ 3191 + 1 = 3192 := ⟨dB_old_26_m41_5_dec_6.2.2.2.2.2.1, by decide⟩
theorem d_L_3192 : decode YL.2.1 3192 = .ok (.invokevirtual 327, 3) ∧ 3192 + 3 = 3195 := ⟨dB_old_26_m41_5_dec_6.2.2.2.2.2.2.1, by decide⟩
theorem d_L_3195 : decode YL.2.1 3195 = .ok (.pop, 1) ∧ 3195 + 1 = 3196 := ⟨dB_old_26_m41_5_dec_6.2.2.2.2.2.2.2.1, by decide⟩
theorem d_L_3196 : decode YL.2.1 3196 = .ok (.goto 280, 3) ∧ ((3196 : Nat) : Int) + 280 = ((3476 : Nat) : Int) ∧ 3196 + 3 = 3199 := ⟨dB_old_26_m41_5_dec_6.2.2.2.2.2.2.2.2.1, by decide⟩
theorem d_L_3199 : decode YL.2.1 3199 = .ok (.aload_n 1, 1) ∧ 3199 + 1 = 3200 := ⟨dB_old_26_m41_5_dec_6.2.2.2.2.2.2.2.2.2.1, by decide⟩
theorem d_L_3200 : decode YL.2.1 3200 = .ok (.aload_n 0, 1) ∧ 3200 + 1 = 3201 := ⟨dB_old_26_m41_5_dec_6.2.2.2.2.2.2.2.2.2.2.1, by decide⟩
theorem d_L_3201 : decode YL.2.1 3201 = .ok (.iload_n 3, 1) ∧ 3201 + 1 = 3202 := ⟨dB_old_26_m41_5_dec_6.2.2.2.2.2.2.2.2.2.2.2.1, by decide⟩
theorem d_L_3202 : decode YL.2.1 3202 = .ok (.iconst 1, 1) ∧ 3202 + 1 = 3203 := ⟨dB_old_26_m41_5_dec_6.2.2.2.2.2.2.2.2.2.2.2.2.1, by decide⟩
theorem d_L_3203 : decode YL.2.1 3203 = .ok (.iadd, 1) ∧ 3203 + 1 = 3204 := ⟨dB_old_26_m41_5_dec_6.2.2.2.2.2.2.2.2.2.2.2.2.2.1, by decide⟩
theorem d_L_3204 : decode YL.2.1 3204 = .ok (.iaload, 1) ∧ 3204 + 1 = 3205 := ⟨dB_old_26_m41_5_dec_6.2.2.2.2.2.2.2.2.2.2.2.2.2.2.1, by decide⟩
theorem d_L_3205 : decode YL.2.1 3205 = .ok (.aload_n 0, 1) ∧ 3205 + 1 = 3206 := ⟨dB_old_26_m41_5_dec_6.2.2.2.2.2.2.2.2.2.2.2.2.2.2.2.1, by decide⟩
theorem d_L_3206 : decode YL.2.1 3206 = .ok (.iload_n 3, 1) ∧ 3206 + 1 = 3207 := ⟨dB_old_26_m41_5_dec_6.2.2.2.2.2.2.2.2.2.2.2.2.2.2.2.2.1, by decide⟩
theorem d_L_3207 : decode YL.2.1 3207 = .ok (.iconst 2, 1) ∧ 3207 + 1 = 3208 := ⟨dB_old_26_m41_5_dec_6.2.2.2.2.2.2.2.2.2.2.2.2.2.2.2.2.2.1, by decide⟩
theorem d_L_3208 : decode YL.2.1 3208 = .ok (.iadd, 1) ∧ 3208 + 1 = 3209 := ⟨dB_old_26_m41_5_dec_6.2.2.2.2.2.2.2.2.2.2.2.2.2.2.2.2.2.2.1, by decide⟩
theorem d_L_3209 : decode YL.2.1 3209 = .ok (.iaload, 1) ∧ 3209 + 1 = 3210 := ⟨dB_old_26_m41_5_dec_6.2.2.2.2.2.2.2.2.2.2.2.2.2.2.2.2.2.2.2.1, by decide⟩
theorem d_L_3210 : decode YL.2.1 3210 = .ok (.invokevirtual 328, 3) ∧ 3210 + 3 = 3213 := ⟨dB_old_26_m41_5_dec_6.2.2.2.2.2.2.2.2.2.2.2.2.2.2.2.2.2.2.2.2.1, by decide⟩
theorem d_L_3213 : decode YL.2.1 3213 = .ok (.pop, 1) ∧ 3213 + 1 = 3214 := ⟨dB_old_26_m41_5_dec_6.2.2.2.2.2.2.2.2.2.2.2.2.2.2.2.2.2.2.2.2.2.1, by decide⟩
theorem d_L_3214 : decode YL.2.1 3214 = .ok (.aload_n 2, 1) ∧ 3214 + 1 = 3215 := ⟨dB_old_26_m41_5_dec_6.2.2.2.2.2.2.2.2.2.2.2.2.2.2.2.2.2.2.2.2.2.2.1, by decide⟩
theorem d_L_3215 : decode YL.2.1 3215 = .ok (.aload_n 0, 1) ∧ 3215 + 1 = 3216 := ⟨dB_old_26_m41_5_dec_6.2.2.2.2.2.2.2.2.2.2.2.2.2.2.2.2.2.2.2.2.2.2.2.1, by decide⟩
theorem d_L_3216 : decode YL.2.1 3216 = .ok (.iload_n 3, 1) ∧ 3216 + 1 = 3217 := ⟨dB_old_26_m41_5_dec_6.2.2.2.2.2.2.2.2.2.2.2.2.2.2.2.2.2.2.2.2.2.2.2.2.1, by decide⟩
theorem d_L_3217 : decode YL.2.1 3217 = .ok (.iconst 1, 1) ∧ 3217 + 1 = 3218 := ⟨dB_old_26_m41_5_dec_6.2.2.2.2.2.2.2.2.2.2.2.2.2.2.2.2.2.2.2.2.2.2.2.2.2.1, by decide⟩
theorem d_L_3218 : decode YL.2.1 3218 = .ok (.iadd, 1) ∧ 3218 + 1 = 3219 := ⟨dB_old_26_m41_5_dec_6.2.2.2.2.2.2.2.2.2.2.2.2.2.2.2.2.2.2.2.2.2.2.2.2.2.2.1, by decide⟩
theorem d_L_3219 : decode YL.2.1 3219 = .ok (.iaload, 1) ∧ 3219 + 1 = 3220 := ⟨dB_old_26_m41_5_dec_6.2.2.2.2.2.2.2.2.2.2.2.2.2.2.2.2.2.2.2.2.2.2.2.2.2.2.2.1, by decide⟩
theorem d_L_3220 : decode YL.2.1 3220 = .ok (.aload_n 0, 1) ∧ 3220 + 1 = 3221 := ⟨dB_old_26_m41_5_dec_6.2.2.2.2.2.2.2.2.2.2.2.2.2.2.2.2.2.2.2.2.2.2.2.2.2.2.2.2.1, by decide⟩
theorem d_L_3221 : decode YL.2.1 3221 = .ok (.iload_n 3, 1) ∧ 3221 + 1 = 3222 := ⟨dB_old_26_m41_5_dec_6.2.2.2.2.2.2.2.2.2.2.2.2.2.2.2.2.2.2.2.2.2.2.2.2.2.2.2.2.2.1, by decide⟩
theorem dB_old_26_m41_5_dec_7 : dAll YL.2.1 [(3222, (.iconst 2, 1)), (3223, (.iadd, 1)), (3224, (.iaload, 1)), (3225, (.invokevirtual 331, 3)), (3228, (.pop, 1)), (3229, (.goto 247, 3)), (3232, (.aload_n 1, 1)), (3233, (.aload_n 0, 1)), (3234, (.iload_n 3, 1)), (3235, (.iconst 1, 1)), (3236, (.iadd, 1)), (3237, (.iaload, 1)), (3238, (.invokevirtual 332, 3)), (3241, (.pop, 1)), (3242, (.aload_n 2, 1)), (3243, (.aload_n 0, 1)), (3244, (.iload_n 3, 1)), (3245, (.iconst 1, 1)), (3246, (.iadd, 1)), (3247, (.iaload, 1)), (3248, (.invokevirtual 335, 3)), (3251, (.pop, 1)), (3252, (.goto 224, 3)), (3255, (.aload_n 1, 1)), (3256, (.aload_n 0, 1)), (3257, (.iload_n 3, 1)), (3258, (.iconst 1, 1)), (3259, (.iadd, 1)), (3260, (.iaload, 1)), (3261, (.aload_n 0, 1))] := dAll_of (by decide +kernel)
theorem d_L_3222 : decode YL.2.1 3222 = .ok (.iconst 2, 1) ∧ 3222 + 1 = 3223 := ⟨dB_old_26_m41_5_dec_7.1, by decide⟩
theorem d_L_3223 : decode YL.2.1 3223 = .ok (.iadd, 1) ∧ 3223 + 1 = 3224 := ⟨dB_old_26_m41_5_dec_7.2.1, by decide⟩
theorem d_L_3224 : decode YL.2.1 3224 = .ok (.iaload, 1) ∧ 3224 + 1 = 3225 := ⟨dB_old_26_m41_5_dec_7.2.2.1, by decide⟩
theorem d_L_3225 : decode YL.2.1 3225 = .ok (.invokevirtual 331, 3) ∧ 3225 + 3 = 3228 := ⟨dB_old_26_m41_5_dec_7.2.2.2.1, by decide⟩
theorem d_L_3228 : decode YL.2.1 3228 = .ok (.pop, 1) ∧ 3228 + 1 = 3229 := ⟨dB_old_26_m41_5_dec_7.2.2.2.2.1, by decide⟩
theorem d_L_3229 : decode YL.2.1 3229 = .ok (.goto 247, 3) ∧ ((3229 : Nat) : Int) + 247 = ((3476 : Nat) : Int) ∧ 3229 + 3 = 3232 := ⟨dB_old_26_m41_5_dec_7.2.2.2.2.2.1, by decide⟩
theorem d_L_3232 : decode YL.2.1 3232 = .ok (.aload_n 1, 1) ∧ 3232 + 1 = 3233 := ⟨dB_old_26_m41_5_dec_7.2.2.2.2.2.2.1, by decide⟩
theorem d_L_3233 : decode YL.2.1 3233 = .ok (.aload_n 0, 1) ∧ 3233 + 1 = 3234 := ⟨dB_old_26_m41_5_dec_7.2.2.2.2.2.2.2.1, by decide⟩
theorem d_L_3234 : decode YL.2.1 3234 = .ok (.iload_n 3, 1) ∧ 3234 + 1 = 3235 := ⟨dB_old_26_m41_5_dec_7.2.2.2.2.2.2.2.2.1, by decide⟩
theorem d_L_3235 : decode YL.2.1 3235 = .ok (.iconst 1, 1) ∧ 3235 + 1 = 3236 := ⟨dB_old_26_m41_5_dec_7.2.2.2.2.2.2.2.2.2.1, by decide⟩
theorem d_L_3236 : decode YL.2.1 3236 = .ok (.iadd, 1) ∧ 3236 + 1 = 3237 := ⟨dB_old_26_m41_5_dec_7.2.2.2.2.2.2.2.2.2.2.1, by decide⟩
theorem d_L_3237 : decode YL.2.1 3237 = .ok (.iaload, 1) ∧ 3237 + 1 = 3238 := ⟨dB_old_26_m41_5_dec_7.2.2.2.2.2.2.2.2.2.2.2.1, by decide⟩
theorem d_L_3238 : decode YL.2.1 3238 = .ok (.invokevirtual 332, 3) ∧ 3238 + 3 = 3241 := ⟨dB_old_26_m41_5_dec_7.2.2.2.2.2.2.2.2.2.2.2.2.1, by decide⟩
theorem d_L_3241 : decode YL.2.1 3241 = .ok (.pop, 1) ∧ 3241 + 1 = 3242 := ⟨dB_old_26_m41_5_dec_7.2.2.2.2.2.2.2.2.2.2.2.2.2.1, by decide⟩
theorem d_L_3242 : decode YL.2.1 3242 = .ok (.aload_n 2, 1) ∧ 3242 + 1 = 3243 := ⟨dB_old_26_m41_5_dec_7.2.2.2.2.2.2.2.2.2.2.2.2.2.2.1, by decide⟩
theorem d_L_3243 : decode YL.2.1 3243 = .ok (.aload_n 0, 1) ∧ 3243 + 1 = 3244 := ⟨dB_old_26_m41_5_dec_7.2.2.2.2.2.2.2.2.2.2.2.2.2.2.2.1, by decide⟩
theorem d_L_3244 : decode YL.2.1 3244 = .ok (.iload_n 3, 1) ∧ 3244 + 1 = 3245 := ⟨dB_old_26_m41_5_dec_7.2.2.2.2.2.2.2.2.2.2.2.2.2.2.2.2.1, by decide⟩
theorem d_L_3245 : decode YL.2.1 3245 = .ok (.iconst 1, 1) ∧ 3245 + 1 = 3246 := ⟨dB_old_26_m41_5_dec_7.2.2.2.2.2.2.2.2.2.2.2.2.2.2.2.2.2.1, by decide⟩
theorem d_L_3246 : decode YL.2.1 3246 = .ok (.iadd, 1) ∧ 3246 + 1 = 3247 := ⟨dB_old_26_m41_5_dec_7.2.2.2.2.2.2.2.2.2.2.2.2.2.2.2.2.2.2.1, by decide⟩
theorem d_L_3247 : decode YL.2.1 3247 = .ok (.iaload, 1) ∧ 3247 + 1 = 3248 := ⟨dB_old_26_m41_5_dec_7.2.2.2.2.2.2.2.2.2.2.2.2.2.2.2.2.2.2.2.1, by decide⟩
theorem d_L_3248 : decode YL.2.1 3248 = .ok (.invokevirtual 335, 3) ∧ 3248 + 3 = 3251 := ⟨dB_old_26_m41_5_dec_7.2.2.2.2.2.2.2.2.2.2.2.2.2.2.2.2.2.2.2.2.1, by decide⟩
theorem d_L_3251 : decode YL.2.1 3251 = .ok (.pop, 1) ∧ 3251 + 1 = 3252 := ⟨dB_old_26_m41_5_dec_7.2.2.2.2.2.2.2.2.2.2.2.2.2.2.2.2.2.2.2.2.2.1, by decide⟩
theorem d_L_3252 : decode YL.2.1 3252 = .ok (.goto 224, 3) ∧ ((3252 : Nat) : Int) + 224 = ((3476 : Nat) : Int) ∧ 3252 + 3 = 3255 := ⟨dB_old_26_m41_5_dec_7.2.2.2.2.2.2.2.2.2.2.2.2.2.2.2.2.2.2.2.2.2.2.1, by decide⟩
theorem d_L_3255 : decode YL.2.1 3255 = .ok (.aload_n 1, 1) ∧ 3255 + 1 = 3256 := ⟨dB_old_26_m41_5_dec_7.2.2.2.2.2.2.2.2.2.2.2.2.2.2.2.2.2.2.2.2.2.2.2.1, by decide⟩
theorem d_L_3256 : decode YL.2.1 3256 = .ok (.aload_n 0, 1) ∧ 3256 + 1 = 3257 := ⟨dB_old_26_m41_5_dec_7.2.2.2.2.2.2.2.2.2.2.2.2.2.2.2.2.2.2.2.2.2.2.2.2.1, by decide⟩
theorem d_L_3257 : decode YL.2.1 3257 = .ok (.iload_n 3, 1) ∧ 3257 + 1 = 3258 := ⟨dB_old_26_m41_5_dec_7.2.2.2.2.2.2.2.2.2.2.2.2.2.2.2.2.2.2.2.2.2.2.2.2.2.1, by decide⟩
theorem d_L_3258 : decode YL.2.1 3258 = .ok (.iconst 1, 1) ∧ 3258 + 1 = 3259 := ⟨dB_old_26_m41_5_dec_7.2.2.2.2.2.2.2.2.2.2.2.2.2.2.2.2.2.2.2.2.2.2.2.2.2.2.1, by decide⟩
theorem d_L_3259 : decode YL.2.1 3259 = .ok (.iadd, 1) ∧ 3259 + 1 = 3260 := ⟨dB_old_26_m41_5_dec_7.2.2.2.2.2.2.2.2.2.2.2.2.2.2.2.2.2.2.2.2.2.2.2.2.2.2.2.1, by decide⟩
theorem d_L_3260 : decode YL.2.1 3260 = .ok (.iaload, 1) ∧ 3260 + 1 = 3261 := ⟨dB_old_26_m41_5_dec_7.2.2.2.2.2.2.2.2.2.2.2.2.2.2.2.2.2.2.2.2.2.2.2.2.2.2.2.2.1, by decide⟩
theorem d_L_3261 : decode YL.2.1 3261 = .ok (.aload_n 0, 1) ∧ 3261 + 1 = 3262 := ⟨dB_old_26_m41_5_dec_7.2.2.2.2.2.2.2.2.2.2.2.2.2.2.2.2.2.2.2.2.2.2.2.2.2.2.2.2.2.1, by decide⟩
theorem dB_old_26_m41_5_dec_8 : dAll YL.2.1 [(3262, (.iload_n 3, 1)), (3263, (.iconst 2, 1)), (3264, (.iadd, 1)), (3265, (.iaload, 1)), (3266, (.invokevirtual 336, 3)), (3269, (.pop, 1)), (3270, (.aload_n 2, 1)), (3271, (.aload_n 0, 1)), (3272, (.iload_n 3, 1)), (3273, (.iconst 1, 1)), (3274, (.iadd, 1)), (3275, (.iaload, 1)), (3276, (.aload_n 0, 1)), (3277, (.iload_n 3, 1)), (3278, (.iconst 2, 1)), (3279, (.iadd, 1)), (3280, (.iaload, 1)), (3281, (.invokevirtual 339, 3)), (3284, (.pop, 1)), (3285, (.goto 191, 3)), (3288, (.aload_n 1, 1)), (3289, (.invokevirtual 340, 3)), (3292, (.pop, 1)), (3293, (.aload_n 2, 1)), (3294, (.invokevirtual 343, 3)), (3297, (.pop, 1)), (3298, (.goto 178, 3)), (3301, (.aload_n 1, 1)), (3302, (.aload_n 0, 1)), (3303, (.iload_n 3, 1))] := dAll_of (by decide +kernel)
theorem d_L_3262 : decode YL.2.1 3262 = .ok (.iload_n 3, 1) ∧ 3262 + 1 = 3263 := ⟨dB_old_26_m41_5_dec_8.1, by decide⟩
theorem d_L_3263 : decode YL.2.1 3263 = .ok (.iconst 2, 1) ∧ 3263 + 1 = 3264 := ⟨dB_old_26_m41_5_dec_8.2.1, by decide⟩
theorem d_L_3264 : decode YL.2.1 3264 = .ok (.iadd, 1) ∧ 3264 + 1 = 3265 := ⟨dB_old_26_m41_5_dec_8.2.2.1, by decide⟩
theorem d_L_3265 : decode YL.2.1 3265 = .ok (.iaload, 1) ∧ 3265 + 1 = 3266 := ⟨dB_old_26_m41_5_dec_8.2.2.2.1, by decide⟩
theorem d_L_3266 : decode YL.2.1 3266 = .ok (.invokevirtual 336, 3) ∧ 3266 + 3 = 3269 := ⟨dB_old_26_m41_5_dec_8.2.2.2.2.1, by decide⟩
theorem d_L_3269 : decode YL.2.1 3269 = .ok (.pop, 1) ∧ 3269 + 1 = 3270 := ⟨dB_old_26_m41_5_dec_8.2.2.2.2.2.1, by decide⟩
theorem d_L_3270 : decode YL.2.1 3270 = .ok (.aload_n 2, 1) ∧ 3270 + 1 = 3271 := ⟨dB_old_26_m41_5_dec_8.2.2.2.2.2.2.1, by decide⟩
theorem d_L_3271 : decode YL.2.1 3271 = .ok (.aload_n 0, 1) ∧ 3271 + 1 = 3272 := ⟨dB_old_26_m41_5_dec_8.2.2.2.2.2.2.2.1, by decide⟩
theorem d_L_3272 : decode YL.2.1 3272 = .ok (.iload_n 3, 1) ∧ 3272 + 1 = 3273 := ⟨dB_old_26_m41_5_dec_8.2.2.2.2.2.2.2.2.1, by decide⟩
theorem d_L_3273 : decode YL.2.1 3273 = .ok (.iconst 1, 1) ∧ 3273 + 1 = 3274 := ⟨dB_old_26_m41_5_dec_8.2.2.2.2.2.2.2.2.2.1, by decide⟩
theorem d_L_3274 : decode YL.2.1 3274 = .ok (.iadd, 1) ∧ 3274 + 1 = 3275 := ⟨dB_old_26_m41_5_dec_8.2.2.2.2.2.2.2.2.2.2.1, by decide⟩
theorem d_L_3275 : decode YL.2.1 3275 = .ok (.iaload, 1) ∧ 3275 + 1 = 3276 := ⟨dB_old_26_m41_5_dec_8.2.2.2.2.2.2.2.2.2.2.2.1, by decide⟩
theorem d_L_3276 : decode YL.2.1 3276 = .ok (.aload_n 0, 1) ∧ 3276 + 1 = 3277 := ⟨dB_old_26_m41_5_dec_8.2.2.2.2.2.2.2.2.2.2.2.2.1, by decide⟩
theorem d_L_3277 : decode YL.2.1 3277 = .ok (.iload_n 3, 1) ∧ 3277 + 1 = 3278 := ⟨dB_old_26_m41_5_dec_8.2.2.2.2.2.2.2.2.2.2.2.2.2.1, by decide⟩
theorem d_L_3278 : decode YL.2.1 3278 = .ok (.iconst 2, 1) ∧ 3278 + 1 = 3279 := ⟨dB_old_26_m41_5_dec_8.2.2.2.2.2.2.2.2.2.2.2.2.2.2.1, by decide⟩
theorem d_L_3279 : decode YL.2.1 3279 = .ok (.iadd, 1) ∧ 3279 + 1 = 3280 := ⟨dB_old_26_m41_5_dec_8.2.2.2.2.2.2.2.2.2.2.2.2.2.2.2.1, by decide⟩
theorem d_L_3280 : decode YL.2.1 3280 = .ok (.iaload, 1) ∧ 3280 + 1 = 3281 := ⟨dB_old_26_m41_5_dec_8.2.2.2.2.2.2.2.2.2.2.2.2.2.2.2.2.1, by decide⟩
theorem d_L_3281 : decode YL.2.1 3281 = .ok (.invokevirtual 339, 3) ∧ 3281 + 3 = 3284 := ⟨dB_old_26_m41_5_dec_8.2.2.2.2.2.2.2.2.2.2.2.2.2.2.2.2.2.1, by decide⟩
theorem d_L_3284 : decode YL.2.1 3284 = .ok (.pop, 1) ∧ 3284 + 1 = 3285 := ⟨dB_old_26_m41_5_dec_8.2.2.2.2.2.2.2.2.2.2.2.2.2.2.2.2.2.2.1, by decide⟩
theorem d_L_3285 : decode YL.2.1 3285 = .ok (.goto 191, 3) ∧ ((3285 : Nat) : Int) + 191 = ((3476 : Nat) : Int) ∧ 3285 + 3 = 3288 := ⟨dB_old_26_m41_5_dec_8.2.2.2.2.2.2.2.2.2.2.2.2.2.2.2.2.2.2.2.1, by decide⟩
theorem d_L_3288 : decode YL.2.1 3288 = .ok (.aload_n 1, 1) ∧ 3288 + 1 = 3289 := ⟨dB_old_26_m41_5_dec_8.2.2.2.2.2.2.2.2.2.2.2.2.2.2.2.2.2.2.2.2.1, by decide⟩
theorem d_L_3289 : decode YL.2.1 3289 = .ok (.invokevirtual 340, 3) ∧ 3289 + 3 = 3292 := ⟨dB_old_26_m41_5_dec_8.2.2.2.2.2.2.2.2.2.2.2.2.2.2.2.2.2.2.2.2.2.1, by decide⟩
theorem d_L_3292 : decode YL.2.1 3292 = .ok (.pop, 1) ∧ 3292 + 1 = 3293 := ⟨dB_old_26_m41_5_dec_8.2.2.2.2.2.2.2.2.2.2.2.2.2.2.2.2.2.2.2.2.2.2.1, by decide⟩
theorem d_L_3293 : decode YL.2.1 3293 = .ok (.aload_n 2, 1) ∧ 3293 + 1 = 3294 := ⟨dB_old_26_m41_5_dec_8.2.2.2.2.2.2.2.2.2.2.2.2.2.2.2.2.2.2.2.2.2.2.2.1, by decide⟩
theorem d_L_3294 : decode YL.2.1 3294 = .ok (.invokevirtual 343, 3) ∧ 3294 + 3 = 3297 := ⟨dB_old_26_m41_5_dec_8.2.2.2.2.2.2.2.2.2.2.2.2.2.2.2.2.2.2.2.2.2.2.2.2.1, by decide⟩
theorem d_L_3297 : decode YL.2.1 3297 = .ok (.pop, 1) ∧ 3297 + 1 = 3298 := ⟨dB_old_26_m41_5_dec_8.2.2.2.2.2.2.2.2.2.2.2.2.2.2.2.2.2.2.2.2.2.2.2.2.2.1, by decide⟩
theorem d_L_3298 : decode YL.2.1 3298 = .ok (.goto 178, 3) ∧ ((3298 : Nat) : Int) + 178 = ((3476 : Nat) : Int) ∧ 3298 + 3 = 3301 := ⟨dB_old_26_m41_5_dec_8.2.2.2.2.2.2.2.2.2.2.2.2.2.2.2.2.2.2.2.2.2.2.2.2.2.2.1, by decide⟩
theorem d_L_3301 : decode YL.2.1 3301 = .ok (.aload_n 1, 1) ∧ 3301 + 1 = 3302 := ⟨dB_old_26_m41_5_dec_8.2.2.2.2.2.2.2.2.2.2.2.2.2.2.2.2.2.2.2.2.2.2.2.2.2.2.2.1, by decide⟩
theorem d_L_3302 : decode YL.2.1 3302 = .ok (.aload_n 0, 1) ∧ 3302 + 1 = 3303 := ⟨dB_old_26_m41_5_dec_8.2.2.2.2.2.2.2.2.2.2.2.2.2.2.2.2.2.2.2.2.2.2.2.2.2.2.2.2.1, by decide⟩
theorem d_L_3303 : decode YL.2.1 3303 = .ok (.iload_n 3, 1) ∧ 3303 + 1 = 3304 := ⟨dB_old_26_m41_5_dec_8.2.2.2.2.2.2.2.2.2.2.2.2.2.2.2.2.2.2.2.2.2.2.2.2.2.2.2.2.2.1, by decide⟩
theorem dB_old_26_m41_5_dec_9 : dAll YL.2.1 [(3304, (.iconst 1, 1)), (3305, (.iadd, 1)), (3306, (.iaload, 1)), (3307, (.aload_n 0, 1)), (3308, (.iload_n 3, 1)), (3309, (.iconst 2, 1)), (3310, (.iadd, 1)), (3311, (.iaload, 1)), (3312, (.invokevirtual 344, 3)), (3315, (.pop, 1)), (3316, (.aload_n 2, 1)), (3317, (.aload_n 0, 1)), (3318, (.iload_n 3, 1)), (3319, (.iconst 1, 1)), (3320, (.iadd, 1)), (3321, (.iaload, 1)), (3322, (.aload_n 0, 1)), (3323, (.iload_n 3, 1)), (3324, (.iconst 2, 1)), (3325, (.iadd, 1)), (3326, (.iaload, 1)), (3327, (.invokevirtual 347, 3)), (3330, (.pop, 1)), (3331, (.goto 145, 3)), (3334, (.aload_n 1, 1)), (3335, (.aload_n 0, 1)), (3336, (.iload_n 3, 1)), (3337, (.iconst 1, 1)), (3338, (.iadd, 1)), (3339, (.iaload, 1))] := dAll_of (by decide +kernel)
theorem d_L_3304 : decode YL.2.1 3304 = .ok (.iconst 1, 1) ∧ 3304 + 1 = 3305 := ⟨dB_old_26_m41_5_dec_9.1, by decide⟩
theorem d_L_3305 : decode YL.2.1 3305 = .ok (.iadd, 1) ∧ 3305 + 1 = 3306 := ⟨dB_old_26_m41_5_dec_9.2.1, by decide⟩
theorem d_L_3306 : decode YL.2.1 3306 = .ok (.iaload, 1) ∧ 3306 + 1 = 3307 := ⟨dB_old_26_m41_5_dec_9.2.2.1, by decide⟩
theorem d_L_3307 : decode YL.2.1 3307 = .ok (.aload_n 0, 1) ∧ 3307 + 1 = 3308 := ⟨dB_old_26_m41_5_dec_9.2.2.2.1, by decide⟩
theorem d_L_3308 : decode YL.2.1 3308 = .ok (.iload_n 3, 1) ∧ 3308 + 1 = 3309 := ⟨dB_old_26_m41_5_dec_9.2.2.2.2.1, by decide⟩
theorem d_L_3309 : decode YL.2.1 3309 = .ok (.iconst 2, 1) ∧ 3309 + 1 = 3310 := ⟨dB_old_26_m41_5_dec_9.2.2.2.2.2.1, by decide⟩
theorem d_L_3310 : decode YL.2.1 3310 = .ok (.iadd, 1) ∧ 3310 + 1 = 3311 := ⟨dB_old_26_m41_5_dec_9.2.2.2.2.2.2.1, by decide⟩
theorem d_L_3311 : decode YL.2.1 3311 = .ok (.iaload, 1) ∧ 3311 + 1 = 3312 := ⟨dB_old_26_m41_5_dec_9.2.2.2.2.2.2.2.1, by decide⟩
theorem d_L_3312 : decode YL.2.1 3312 = .ok (.invokevirtual 344, 3) ∧ 3312 + 3 = 3315 := ⟨dB_old_26_m41_5_dec_9.2.2.2.2.2.2.2.2.1, by decide⟩
theorem d_L_3315 : decode YL.2.1 3315 = .ok (.pop, 1) ∧ 3315 + 1 = 3316 := ⟨dB_old_26_m41_5_dec_9.2.2.2.2.2.2.2.2.2.1, by decide⟩
theorem d_L_3316 : decode YL.2.1 3316 = .ok (.aload_n 2, 1) ∧ 3316 + 1 = 3317 := ⟨dB_old_26_m41_5_dec_9.2.2.2.2.2.2.2.2.2.2.1, by decide⟩
theorem d_L_3317 : decode YL.2.1 3317 = .ok (.aload_n 0, 1) ∧ 3317 + 1 = 3318 := ⟨dB_old_26_m41_5_dec_9.2.2.2.2.2.2.2.2.2.2.2.1, by decide⟩
theorem d_L_3318 : decode YL.2.1 3318 = .ok (.iload_n 3, 1) ∧ 3318 + 1 = 3319 := ⟨dB_old_26_m41_5_dec_9.2.2.2.2.2.2.2.2.2.2.2.2.1, by decide⟩
theorem d_L_3319 : decode YL.2.1 3319 = .ok (.iconst 1, 1) ∧ 3319 + 1 = 3320 := ⟨dB_old_26_m41_5_dec_9.2.2.2.2.2.2.2.2.2.2.2.2.2.1, by decide⟩
theorem d_L_3320 : decode YL.2.1 3320 = .ok (.iadd, 1) ∧ 3320 + 1 = 3321 := ⟨dB_old_26_m41_5_dec_9.2.2.2.2.2.2.2.2.2.2.2.2.2.2.1, by decide⟩
theorem d_L_3321 : decode YL.2.1 3321 = .ok (.iaload, 1) ∧ 3321 + 1 = 3322 := ⟨dB_old_26_m41_5_dec_9.2.2.2.2.2.2.2.2.2.2.2.2.2.2.2.1, by decide⟩
theorem d_L_3322 : decode YL.2.1 3322 = .ok (.aload_n 0, 1) ∧ 3322 + 1 = 3323 := ⟨dB_old_26_m41_5_dec_9.2.2.2.2.2.2.2.2.2.2.2.2.2.2.2.2.1, by decide⟩
theorem d_L_3323 : decode YL.2.1 3323 = .ok (.iload_n 3, 1) ∧ 3323 + 1 = 3324 := ⟨dB_old_26_m41_5_dec_9.2.2.2.2.2.2.2.2.2.2.2.2.2.2.2.2.2.1, by decide⟩
theorem d_L_3324 : decode YL.2.1 3324 = .ok (.iconst 2, 1) ∧ 3324 + 1 = 3325 := ⟨dB_old_26_m41_5_dec_9.2.2.2.2.2.2.2.2.2.2.2.2.2.2.2.2.2.2.1, by decide⟩
theorem d_L_3325 : decode YL.2.1 3325 = .ok (.iadd, 1) ∧ 3325 + 1 = 3326 := ⟨dB_old_26_m41_5_dec_9.2.2.2.2.2.2.2.2.2.2.2.2.2.2.2.2.2.2.2.1, by decide⟩
theorem d_L_3326 : decode YL.2.1 3326 = .ok (.iaload, 1) ∧ 3326 + 1 = 3327 := ⟨dB_old_26_m41_5_dec_9.2.2.2.2.2.2.2.2.2.2.2.2.2.2.2.2.2.2.2.2.1, by decide⟩
theorem d_L_3327 : decode YL.2.1 3327 = .ok (.invokevirtual 347, 3) ∧ 3327 + 3 = 3330 := ⟨dB_old_26_m41_5_dec_9.2.2.2.2.2.2.2.2.2.2.2.2.2.2.2.2.2.2.2.2.2.1, by decide⟩
theorem d_L_3330 : decode YL.2.1 3330 = .ok (.pop, 1) ∧ 3330 + 1 = 3331 := ⟨dB_old_26_m41_5_dec_9.2.2.2.2.2.2.2.2.2.2.2.2.2.2.2.2.2.2.2.2.2.2.1, by decide⟩
theorem d_L_3331 : decode YL.2.1 3331 = .ok (.goto 145, 3) ∧ ((3331 : Nat) : Int) + 145 = ((3476 : Nat) : Int) ∧ 3331 + 3 = 3334 := ⟨dB_old_26_m41_5_dec_9.2.2.2.2.2.2.2.2.2.2.2.2.2.2.2.2.2.2.2.2.2.2.2.1, by decide⟩
theorem d_L_3334 : decode YL.2.1 3334 = .ok (.aload_n 1, 1) ∧ 3334 + 1 = 3335 := ⟨dB_old_26_m41_5_dec_9.2.2.2.2.2.2.2.2.2.2.2.2.2.2.2.2.2.2.2.2.2.2.2.2.1, by decide⟩
theorem d_L_3335 : decode YL.2.1 3335 = .ok (.aload_n 0, 1) ∧ 3335 + 1 = 3336 := ⟨dB_old_26_m41_5_dec_9.2.2.2.2.2.2.2.2.2.2.2.2.2.2.2.2.2.2.2.2.2.2.2.2.2.1, by decide⟩
theorem d_L_3336 : decode YL.2.1 3336 = .ok (.iload_n 3, 1) ∧ 3336 + 1 = 3337 := ⟨dB_old_26_m41_5_dec_9.2.2.2.2.2.2.2.2.2.2.2.2.2.2.2.2.2.2.2.2.2.2.2.2.2.2.1, by decide⟩
theorem d_L_3337 : decode YL.2.1 3337 = .ok (.iconst 1, 1) ∧ 3337 + 1 = 3338 := ⟨dB_old_26_m41_5_dec_9.2.2.2.2.2.2.2.2.2.2.2.2.2.2.2.2.2.2.2.2.2.2.2.2.2.2.2.1, by decide⟩
theorem d_L_3338 : decode YL.2.1 3338 = .ok (.iadd, 1) ∧ 3338 + 1 = 3339 := ⟨dB_old_26_m41_5_dec_9.2.2.2.2.2.2.2.2.2.2.2.2.2.2.2.2.2.2.2.2.2.2.2.2.2.2.2.2.1, by decide⟩
theorem d_L_3339 : decode YL.2.1 3339 = .ok (.iaload, 1) ∧ 3339 + 1 = 3340 := ⟨dB_old_26_m41_5_dec_9.2.2.2.2.2.2.2.2.2.2.2.2.2.2.2.2.2.2.2.2.2.2.2.2.2.2.2.2.2.1, by decide⟩
theorem dB_old_26_m41_5_dec_10 : dAll YL.2.1 [(3340, (.aload_n 0, 1)), (3341, (.iload_n 3, 1)), (3342, (.iconst 2, 1)), (3343, (.iadd, 1)), (3344, (.iaload, 1)), (3345, (.aload_n 0, 1)), (3346, (.iload_n 3, 1)), (3347, (.iconst 3, 1)), (3348, (.iadd, 1)), (3349, (.iaload, 1)), (3350, (.invokevirtual 348, 3)), (3353, (.pop, 1)), (3354, (.aload_n 2, 1)), (3355, (.aload_n 0, 1)), (3356, (.iload_n 3, 1)), (3357, (.iconst 1, 1)), (3358, (.iadd, 1)), (3359, (.iaload, 1)), (3360, (.aload_n 0, 1)), (3361, (.iload_n 3, 1)), (3362, (.iconst 2, 1)), (3363, (.iadd, 1)), (3364, (.iaload, 1)), (3365, (.aload_n 0, 1)), (3366, (.iload_n 3, 1)), (3367, (.iconst 3, 1)), (3368, (.iadd, 1)), (3369, (.iaload, 1)), (3370, (.invokevirtual 351, 3)), (3373, (.pop, 1))] := dAll_of (by decide +kernel)
theorem d_L_3340 : decode YL.2.1 3340 = .ok (.aload_n 0, 1) ∧ 3340 + 1 = 3341 := ⟨dB_old_26_m41_5_dec_10.1, by decide⟩
theorem d_L_3341 : decode YL.2.1 3341 = .ok (.iload_n 3, 1) ∧ 3341 + 1 = 3342 := ⟨dB_old_26_m41_5_dec_10.2.1, by decide⟩
theorem d_L_3342 : decode YL.2.1 3342 = .ok (.iconst 2, 1) ∧ 3342 + 1 = 3343 := ⟨dB_old_26_m41_5_dec_10.2.2.1, by decide⟩
theorem d_L_3343 : decode YL.2.1 3343 = .ok (.iadd, 1) ∧ 3343 + 1 = 3344 := ⟨dB_old_26_m41_5_dec_10.2.2.2.1, by decide⟩
theorem d_L_3344 : decode YL.2.1 3344 = .ok (.iaload, 1) ∧ 3344 + 1 = 3345 := ⟨dB_old_26_m41_5_dec_10.2.2.2.2.1, by decide⟩
theorem d_L_3345 : decode YL.2.1 3345 = .ok (.aload_n 0, 1) ∧ 3345 + 1 = 3346 := ⟨dB_old_26_m41_5_dec_10.2.2.2.2.2.1, by decide⟩
theorem d_L_3346 : decode YL.2.1 3346 = .ok (.iload_n 3, 1) ∧ 3346 + 1 = 3347 := ⟨dB_old_26_m41_5_dec_10.2.2.2.2.2.2.1, by decide⟩
theorem d_L_3347 : decode YL.2.1 3347 = .ok (.iconst 3, 1) ∧ 3347 + 1 = 3348 := ⟨dB_old_26_m41_5_dec_10.2.2.2.2.2.2.2.1, by decide⟩
theorem d_L_3348 : decode YL.2.1 3348 = .ok (.iadd, 1) ∧ 3348 + 1 = 3349 := ⟨dB_old_26_m41_5_dec_10.2.2.2.2.2.2.2.2.1, by decide⟩
theorem d_L_3349 : decode YL.2.1 3349 = .ok (.iaload, 1) ∧ 3349 + 1 = 3350 := ⟨dB_old_26_m41_5_dec_10.2.2.2.2.2.2.2.2.2.1, by decide⟩
theorem d_L_3350 : decode YL.2.1 3350 = .ok (.invokevirtual 348, 3) ∧ 3350 + 3 = 3353 := ⟨dB_old_26_m41_5_dec_10.2.2.2.2.2.2.2.2.2.2.1, by decide⟩
theorem d_L_3353 : decode YL.2.1 3353 = .ok (.pop, 1) ∧ 3353 + 1 = 3354 := ⟨dB_old_26_m41_5_dec_10.2.2.2.2.2.2.2.2.2.2.2.1, by decide⟩
theorem d_L_3354 : decode YL.2.1 3354 = .ok (.aload_n 2, 1) ∧ 3354 + 1 = 3355 := ⟨dB_old_26_m41_5_dec_10.2.2.2.2.2.2.2.2.2.2.2.2.1, by decide⟩
theorem d_L_3355 : decode YL.2.1 3355 = .ok (.aload_n 0, 1) ∧ 3355 + 1 = 3356 := ⟨dB_old_26_m41_5_dec_10.2.2.2.2.2.2.2.2.2.2.2.2.2.1, by decide⟩
theorem d_L_3356 : decode YL.2.1 3356 = .ok (.iload_n 3, 1) ∧ 3356 + 1 = 3357 := ⟨dB_old_26_m41_5_dec_10.2.2.2.2.2.2.2.2.2.2.2.2.2.2.1, by decide⟩
theorem d_L_3357 : decode YL.2.1 3357 = .ok (.iconst 1, 1) ∧ 3357 + 1 = 3358 := ⟨dB_old_26_m41_5_dec_10.2.2.2.2.2.2.2.2.2.2.2.2.2.2.2.1, by decide⟩
theorem d_L_3358 : decode YL.2.1 3358 = .ok (.iadd, 1) ∧ 3358 + 1 = 3359 := ⟨dB_old_26_m41_5_dec_10.2.2.2.2.2.2.2.2.2.2.2.2.2.2.2.2.1, by decide⟩
theorem d_L_3359 : decode YL.2.1 3359 = .ok (.iaload, 1) ∧ 3359 + 1 = 3360 := ⟨dB_old_26_m41_5_dec_10.2.2.2.2.2.2.2.2.2.2.2.2.2.2.2.2.2.1, by decide⟩
theorem d_L_3360 : decode YL.2.1 3360 = .ok (.aload_n 0, 1) ∧ 3360 + 1 = 3361 := ⟨dB_old_26_m41_5_dec_10.2.2.2.2.2.2.2.2.2.2.2.2.2.2.2.2.2.2.1, by decide⟩
theorem d_L_3361 : decode YL.2.1 3361 = .ok (.iload_n 3, 1) ∧ 3361 + 1 = 3362 := ⟨dB_old_26_m41_5_dec_10.2.2.2.2.2.2.2.2.2.2.2.2.2.2.2.2.2.2.2.1, by decide⟩
theorem d_L_3362 : decode YL.2.1 3362 = .ok (.iconst 2, 1) ∧ 3362 + 1 = 3363 := ⟨dB_old_26_m41_5_dec_10.2.2.2.2.2.2.2.2.2.2.2.2.2.2.2.2.2.2.2.2.1, by decide⟩
theorem d_L_3363 : decode YL.2.1 3363 = .ok (.iadd, 1) ∧ 3363 + 1 = 3364 := ⟨dB_old_26_m41_5_dec_10.2.2.2.2.2.2.2.2.2.2.2.2.2.2.2.2.2.2.2.2.2.1, by decide⟩
theorem d_L_3364 : decode YL.2.1 3364 = .ok (.iaload, 1) ∧ 3364 + 1 = 3365 := ⟨dB_old_26_m41_5_dec_10.2.2.2.2.2.2.2.2.2.2.2.2.2.2.2.2.2.2.2.2.2.2.1, by decide⟩
theorem d_L_3365 : decode YL.2.1 3365 = .ok (.aload_n 0, 1) ∧ 3365 + 1 = 3366 := ⟨dB_old_26_m41_5_dec_10.2.2.2.2.2.2.2.2.2.2.2.2.2.2.2.2.2.2.2.2.2.2.2.1, by decide⟩
theorem d_L_3366 : decode YL.2.1 3366 = .ok (.iload_n 3, 1) ∧ 3366 + 1 = 3367 := ⟨dB_old_26_m41_5_dec_10.2.2.2.2.2.2.2.2.2.2.2.2.2.2.2.2.2.2.2.2.2.2.2.2.1, by decide⟩
theorem d_L_3367 : decode YL.2.1 3367 = .ok (.iconst 3, 1) ∧ 3367 + 1 = 3368 := ⟨dB_old_26_m41_5_dec_10.2.2.2.2.2.2.2.2.2.2.2.2.2.2.2.2.2.2.2.2.2.2.2.2.2.1, by decide⟩
theorem d_L_3368 : decode YL.2.1 3368 = .ok (.iadd, 1) ∧ 3368 + 1 = 3369 := ⟨dB_old_26_m41_5_dec_10.2.2.2.2.2.2.2.2.2.2.2.2.2.2.2.2.2.2.2.2.2.2.2.2.2.2.1, by decide⟩
theorem d_L_3369 : decode YL.2.1 3369 = .ok (.iaload, 1) ∧ 3369 + 1 = 3370 := ⟨dB_old_26_m41_5_dec_10.2.2.2.2.2.2.2.2.2.2.2.2.2.2.2.2.2.2.2.2.2.2.2.2.2.2.2.1, by decide⟩
theorem d_L_3370 : decode YL.2.1 3370 = .ok (.invokevirtual 351, 3) ∧ 3370 + 3 = 3373 := ⟨dB_old_26_m41_5_dec_10.2.2.2.2.2.2.2.2.2.2.2.2.2.2.2.2.2.2.2.2.2.2.2.2.2.2.2.2.1, by decide⟩
theorem d_L_3373 : decode YL.2.1 3373 = .ok (.pop, 1) ∧ 3373 + 1 = 3374 := ⟨dB_old_26_m41_5_dec_10.2.2.2.2.2.2.2.2.2.2.2.2.2.2.2.2.2.2.2.2.2.2.2.2.2.2.2.2.2.1, by decide⟩
theorem dB_old_26_m41_5_dec_11 : dAll YL.2.1 [(3374, (.goto 102, 3)), (3377, (.aload_n 1, 1)), (3378, (.invokevirtual 352, 3)), (3381, (.pop, 1)), (3382, (.aload_n 2, 1)), (3383, (.invokevirtual 355, 3)), (3386, (.pop, 1)), (3387, (.goto 89, 3)), (3390, (.aload_n 1, 1)), (3391, (.aload_n 0, 1)), (3392, (.iload_n 3, 1)), (3393, (.iconst 1, 1)), (3394, (.iadd, 1)), (3395, (.iaload, 1)), (3396, (.aload_n 0, 1)), (3397, (.iload_n 3, 1)), (3398, (.iconst 2, 1)), (3399, (.iadd, 1)), (3400, (.iaload, 1)), (3401, (.invokevirtual 356, 3)), (3404, (.pop, 1)), (3405, (.aload_n 2, 1)), (3406, (.aload_n 0, 1)), (3407, (.iload_n 3, 1)), (3408, (.iconst 1, 1)), (3409, (.iadd, 1)), (3410, (.iaload, 1)), (3411, (.aload_n 0, 1)), (3412, (.iload_n 3, 1)), (3413, (.iconst 2, 1))] := dAll_of (by decide +kernel)
theorem d_L_3374 : decode YL.2.1 3374 = .ok (.goto 102, 3) ∧ ((3374 : Nat) : Int) + 102 = ((3476 : Nat) : Int) ∧ 3374 + 3 = 3377 := ⟨dB_old_26_m41_5_dec_11.1, by decide⟩
theorem d_L_3377 : decode YL.2.1 3377 = .ok (.aload_n 1, 1) ∧ 3377 + 1 = 3378 := ⟨dB_old_26_m41_5_dec_11.2.1, by decide⟩
theorem d_L_3378 : decode YL.2.1 3378 = .ok (.invokevirtual 352, 3) ∧ 3378 + 3 = 3381 := ⟨dB_old_26_m41_5_dec_11.2.2.1, by decide⟩
theorem d_L_3381 : decode YL.2.1 3381 = .ok (.pop, 1) ∧ 3381 + 1 = 3382 := ⟨dB_old_26_m41_5_dec_11.2.2.2.1, by decide⟩
theorem d_L_3382 : decode YL.2.1 3382 = .ok (.aload_n 2, 1) ∧ 3382 + 1 = 3383 := ⟨dB_old_26_m41_5_dec_11.2.2.2.2.1, by decide⟩
theorem d_L_3383 : decode YL.2.1 3383 = .ok (.invokevirtual 355, 3) ∧ 3383 + 3 = 3386 := ⟨dB_old_26_m41_5_dec_11.2.2.2.2.2.1, by decide⟩
theorem d_L_3386 : decode YL.2.1 3386 = .ok (.pop, 1) ∧ 3386 + 1 = 3387 := ⟨dB_old_26_m41_5_dec_11.2.2.2.2.2.2.1, by decide⟩
theorem d_L_3387 : decode YL.2.1 3387 = .ok (.goto 89, 3) ∧ ((3387 : Nat) : Int) + 89 = ((3476 : Nat) : Int) ∧ 3387 + 3 = 3390 := ⟨dB_old_26_m41_5_dec_11.2.2.2.2.2.2.2.1, by decide⟩
theorem d_L_3390 : decode YL.2.1 3390 = .ok (.aload_n 1, 1) ∧ 3390 + 1 = 3391 := ⟨dB_old_26_m41_5_dec_11.2.2.2.2.2.2.2.2.1, by decide⟩
theorem d_L_3391 : decode YL.2.1 3391 = .ok (.aload_n 0, 1) ∧ 3391 + 1 = 3392 := ⟨dB_old_26_m41_5_dec_11.2.2.2.2.2.2.2.2.2.1, by decide⟩
theorem d_L_3392 : decode YL.2.1 3392 = .ok (.iload_n 3, 1) ∧ 3392 + 1 = 3393 := ⟨dB_old_26_m41_5_dec_11.2.2.2.2.2.2.2.2.2.2.1, by decide⟩
theorem d_L_3393 : decode YL.2.1 3393 = .ok (.iconst 1, 1) ∧ 3393 + 1 = 3394 := ⟨dB_old_26_m41_5_dec_11.2.2.2.2.2.2.2.2.2.2.2.1, by decide⟩
theorem d_L_3394 : decode YL.2.1 3394 = .ok (.iadd, 1) ∧ 3394 + 1 = 3395 := ⟨dB_old_26_m41_5_dec_11.2.2.2.2.2.2.2.2.2.2.2.2.1, by decide⟩
theorem d_L_3395 : decode YL.2.1 3395 = .ok (.iaload, 1) ∧ 3395 + 1 = 3396 := ⟨dB_old_26_m41_5_dec_11.2.2.2.2.2.2.2.2.2.2.2.2.2.1, by decide⟩
theorem d_L_3396 : decode YL.2.1 3396 = .ok (.aload_n 0, 1) ∧ 3396 + 1 = 3397 := ⟨dB_old_26_m41_5_dec_11.2.2.2.2.2.2.2.2.2.2.2.2.2.2.1, by decide⟩
theorem d_L_3397 : decode YL.2.1 3397 = .ok (.iload_n 3, 1) ∧ 3397 + 1 = 3398 := ⟨dB_old_26_m41_5_dec_11.2.2.2.2.2.2.2.2.2.2.2.2.2.2.2.1, by decide⟩
theorem d_L_3398 : decode YL.2.1 3398 = .ok (.iconst 2, 1) ∧ 3398 + 1 = 3399 := ⟨dB_old_26_m41_5_dec_11.2.2.2.2.2.2.2.2.2.2.2.2.2.2.2.2.1, by decide⟩
theorem d_L_3399 : decode YL.2.1 3399 = .ok (.iadd, 1) ∧ 3399 + 1 = 3400 := ⟨dB_old_26_m41_5_dec_11.2.2.2.2.2.2.2.2.2.2.2.2.2.2.2.2.2.1, by decide⟩
theorem d_L_3400 : decode YL.2.1 3400 = .ok (.iaload, 1) ∧ 3400 + 1 = 3401 := ⟨dB_old_26_m41_5_dec_11.2.2.2.2.2.2.2.2.2.2.2.2.2.2.2.2.2.2.1, by decide⟩
theorem d_L_3401 : decode YL.2.1 3401 = .ok (.invokevirtual 356, 3) ∧ 3401 + 3 = 3404 := ⟨dB_old_26_m41_5_dec_11.2.2.2.2.2.2.2.2.2.2.2.2.2.2.2.2.2.2.2.1, by decide⟩
theorem d_L_3404 : decode YL.2.1 3404 = .ok (.pop, 1) ∧ 3404 + 1 = 3405 := ⟨dB_old_26_m41_5_dec_11.2.2.2.2.2.2.2.2.2.2.2.2.2.2.2.2.2.2.2.2.1, by decide⟩
theorem d_L_3405 : decode YL.2.1 3405 = .ok (.aload_n 2, 1) ∧ 3405 + 1 = 3406 := ⟨dB_old_26_m41_5_dec_11.2.2.2.2.2.2.2.2.2.2.2.2.2.2.2.2.2.2.2.2.2.1, by decide⟩
theorem d_L_3406 : decode YL.2.1 3406 = .ok (.aload_n 0, 1) ∧ 3406 + 1 = 3407 := ⟨dB_old_26_m41_5_dec_11.2.2.2.2.2.2.2.2.2.2.2.2.2.2.2.2.2.2.2.2.2.2.1, by decide⟩
theorem d_L_3407 : decode YL.2.1 3407 = .ok (.iload_n 3, 1) ∧ 3407 + 1 = 3408 := ⟨dB_old_26_m41_5_dec_11.2.2.2.2.2.2.2.2.2.2.2.2.2.2.2.2.2.2.2.2.2.2.2.1, by decide⟩
theorem d_L_3408 : decode YL.2.1 3408 = .ok (.iconst 1, 1) ∧ 3408 + 1 = 3409 := ⟨dB_old_26_m41_5_dec_11.2.2.2.2.2.2.2.2.2.2.2.2.2.2.2.2.2.2.2.2.2.2.2.2.1, by decide⟩
theorem d_L_3409 : decode YL.2.1 3409 = .ok (.iadd, 1) ∧ 3409 + 1 = 3410 := ⟨dB_old_26_m41_5_dec_11.2.2.2.2.2.2.2.2.2.2.2.2.2.2.2.2.2.2.2.2.2.2.2.2.2.1, by decide⟩
theorem d_L_3410 : decode YL.2.1 3410 = .ok (.iaload, 1) ∧ 3410 + 1 = 3411 := ⟨dB_old_26_m41_5_dec_11.2.2.2.2.2.2.2.2.2.2.2.2.2.2.2.2.2.2.2.2.2.2.2.2.2.2.1, by decide⟩
theorem d_L_3411 : decode YL.2.1 3411 = .ok (.aload_n 0, 1) ∧ 3411 + 1 = 3412 := ⟨dB_old_26_m41_5_dec_11.2.2.2.2.2.2.2.2.2.2.2.2.2.2.2.2.2.2.2.2.2.2.2.2.2.2.2.1, by decide⟩
theorem d_L_3412 : decode YL.2.1 3412 = .ok (.iload_n 3, 1) ∧ 3412 + 1 = 3413 := ⟨dB_old_26_m41_5_dec_11.2.2.2.2.2.2.2.2.2.2.2.2.2.2.2.2.2.2.2.2.2.2.2.2.2.2.2.2.1, by decide⟩
theorem d_L_3413 : decode YL.2.1 3413 = .ok (.iconst 2, 1) ∧ 3413 + 1 = 3414 := ⟨dB_old_26_m41_5_dec_11.2.2.2.2.2.2.2.2.2.2.2.2.2.2.2.2.2.2.2.2.2.2.2.2.2.2.2.2.2.1, by decide⟩
theorem dB_old_26_m41_5_dec_12 : dAll YL.2.1 [(3414, (.iadd, 1)), (3415, (.iaload, 1)), (3416, (.invokevirtual 359, 3)), (3419, (.pop, 1)), (3420, (.goto 56, 3)), (3423, (.aload_n 1, 1)), (3424, (.aload_n 0, 1)), (3425, (.iload_n 3, 1)), (3426, (.iconst 1, 1)), (3427, (.iadd, 1)), (3428, (.iaload, 1)), (3429, (.aload_n 0, 1)), (3430, (.iload_n 3, 1)), (3431, (.iconst 2, 1)), (3432, (.iadd, 1)), (3433, (.iaload, 1)), (3434, (.aload_n 0, 1)), (3435, (.iload_n 3, 1)), (3436, (.iconst 3, 1)), (3437, (.iadd, 1)), (3438, (.iaload, 1)), (3439, (.aload_n 0, 1)), (3440, (.iload_n 3, 1)), (3441, (.iconst 4, 1)), (3442, (.iadd, 1)), (3443, (.iaload, 1)), (3444, (.invokevirtual 360, 3)), (3447, (.pop, 1)), (3448, (.aload_n 2, 1)), (3449, (.aload_n 0, 1))] := dAll_of (by decide +kernel)
theorem d_L_3414 : decode YL.2.1 3414 = .ok (.iadd, 1) ∧ 3414 + 1 = 3415 := ⟨dB_old_26_m41_5_dec_12.1, by decide⟩
theorem d_L_3415 : decode YL.2.1 3415 = .ok (.iaload, 1) ∧ 3415 + 1 = 3416 := ⟨dB_old_26_m41_5_dec_12.2.1, by decide⟩
theorem d_L_3416 : decode YL.2.1 3416 = .ok (.invokevirtual 359, 3) ∧ 3416 + 3 = 3419 := ⟨dB_old_26_m41_5_dec_12.2.2.1, by decide⟩
theorem d_L_3419 : decode YL.2.1 3419 = .ok (.pop, 1) ∧ 3419 + 1 = 3420 := ⟨dB_old_26_m41_5_dec_12.2.2.2.1, by decide⟩
theorem d_L_3420 : decode YL.2.1 3420 = .ok (.goto 56, 3) ∧ ((3420 : Nat) : Int) + 56 = ((3476 : Nat) : Int) ∧ 3420 + 3 = 3423 := ⟨dB_old_26_m41_5_dec_12.2.2.2.2.1, by decide⟩
theorem d_L_3423 : decode YL.2.1 3423 = .ok (.aload_n 1, 1) ∧ 3423 + 1 = 3424 := ⟨dB_old_26_m41_5_dec_12.2.2.2.2.2.1, by decide⟩
theorem d_L_3424 : decode YL.2.1 3424 = .ok (.aload_n 0, 1) ∧ 3424 + 1 = 3425 := ⟨dB_old_26_m41_5_dec_12.2.2.2.2.2.2.1, by decide⟩
theorem d_L_3425 : decode YL.2.1 3425 = .ok (.iload_n 3, 1) ∧ 3425 + 1 = 3426 := ⟨dB_old_26_m41_5_dec_12.2.2.2.2.2.2.2.1, by decide⟩
theorem d_L_3426 : decode YL.2.1 3426 = .ok (.iconst 1, 1) ∧ 3426 + 1 = 3427 := ⟨dB_old_26_m41_5_dec_12.2.2.2.2.2.2.2.2.1, by decide⟩
theorem d_L_3427 : decode YL.2.1 3427 = .ok (.iadd, 1) ∧ 3427 + 1 = 3428 := ⟨dB_old_26_m41_5_dec_12.2.2.2.2.2.2.2.2.2.1, by decide⟩
theorem d_L_3428 : decode YL.2.1 3428 = .ok (.iaload, 1) ∧ 3428 + 1 = 3429 := ⟨dB_old_26_m41_5_dec_12.2.2.2.2.2.2.2.2.2.2.1, by decide⟩
theorem d_L_3429 : decode YL.2.1 3429 = .ok (.aload_n 0, 1) ∧ 3429 + 1 = 3430 := ⟨dB_old_26_m41_5_dec_12.2.2.2.2.2.2.2.2.2.2.2.1, by decide⟩
theorem d_L_3430 : decode YL.2.1 3430 = .ok (.iload_n 3, 1) ∧ 3430 + 1 = 3431 := ⟨dB_old_26_m41_5_dec_12.2.2.2.2.2.2.2.2.2.2.2.2.1, by decide⟩
theorem d_L_3431 : decode YL.2.1 3431 = .ok (.iconst 2, 1) ∧ 3431 + 1 = 3432 := ⟨dB_old_26_m41_5_dec_12.2.2.2.2.2.2.2.2.2.2.2.2.2.1, by decide⟩
theorem d_L_3432 : decode YL.2.1 3432 = .ok (.iadd, 1) ∧ 3432 + 1 = 3433 := ⟨dB_old_26_m41_5_dec_12.2.2.2.2.2.2.2.2.2.2.2.2.2.2.1, by decide⟩
theorem d_L_3433 : decode YL.2.1 3433 = .ok (.iaload, 1) ∧ 3433 + 1 = 3434 := ⟨dB_old_26_m41_5_dec_12.2.2.2.2.2.2.2.2.2.2.2.2.2.2.2.1, by decide⟩
theorem d_L_3434 : decode YL.2.1 3434 = .ok (.aload_n 0, 1) ∧ 3434 + 1 = 3435 := ⟨dB_old_26_m41_5_dec_12.2.2.2.2.2.2.2.2.2.2.2.2.2.2.2.2.1, by decide⟩
theorem d_L_3435 : decode YL.2.1 3435 = .ok (.iload_n 3, 1) ∧ 3435 + 1 = 3436 := ⟨dB_old_26_m41_5_dec_12.2.2.2.2.2.2.2.2.2.2.2.2.2.2.2.2.2.1, by decide⟩
theorem d_L_3436 : decode YL.2.1 3436 = .ok (.iconst 3, 1) ∧ 3436 + 1 = 3437 := ⟨dB_old_26_m41_5_dec_12.2.2.2.2.2.2.2.2.2.2.2.2.2.2.2.2.2.2.1, by decide⟩
theorem d_L_3437 : decode YL.2.1 3437 = .ok (.iadd, 1) ∧ 3437 + 1 = 3438 := ⟨dB_old_26_m41_5_dec_12.2.2.2.2.2.2.2.2.2.2.2.2.2.2.2.2.2.2.2.1, by decide⟩
theorem d_L_3438 : decode YL.2.1 3438 = .ok (.iaload, 1) ∧ 3438 + 1 = 3439 := ⟨dB_old_26_m41_5_dec_12.2.2.2.2.2.2.2.2.2.2.2.2.2.2.2.2.2.2.2.2.1, by decide⟩
theorem d_L_3439 : decode YL.2.1 3439 = .ok (.aload_n 0, 1) ∧ 3439 + 1 = 3440 := ⟨dB_old_26_m41_5_dec_12.2.2.2.2.2.2.2.2.2.2.2.2.2.2.2.2.2.2.2.2.2.1, by decide⟩
theorem d_L_3440 : decode YL.2.1 3440 = .ok (.iload_n 3, 1) ∧ 3440 + 1 = 3441 := ⟨dB_old_26_m41_5_dec_12.2.2.2.2.2.2.2.2.2.2.2.2.2.2.2.2.2.2.2.2.2.2.1, by decide⟩
theorem d_L_3441 : decode YL.2.1 3441 = .ok (.iconst 4, 1) ∧ 3441 + 1 = 3442 := ⟨dB_old_26_m41_5_dec_12.2.2.2.2.2.2.2.2.2.2.2.2.2.2.2.2.2.2.2.2.2.2.2.1, by decide⟩
theorem d_L_3442 : decode YL.2.1 3442 = .ok (.iadd, 1) ∧ 3442 + 1 = 3443 := ⟨dB_old_26_m41_5_dec_12.2.2.2.2.2.2.2.2.2.2.2.2.2.2.2.2.2.2.2.2.2.2.2.2.1, by decide⟩
theorem d_L_3443 : decode YL.2.1 3443 = .ok (.iaload, 1) ∧ 3443 + 1 = 3444 := ⟨dB_old_26_m41_5_dec_12.2.2.2.2.2.2.2.2.2.2.2.2.2.2.2.2.2.2.2.2.2.2.2.2.2.1, by decide⟩
theorem d_L_3444 : decode YL.2.1 3444 = .ok (.invokevirtual 360, 3) ∧ 3444 + 3 = 3447 := ⟨dB_old_26_m41_5_dec_12.2.2.2.2.2.2.2.2.2.2.2.2.2.2.2.2.2.2.2.2.2.2.2.2.2.2.1, by decide⟩
theorem d_L_3447 : decode YL.2.1 3447 = .ok (.pop, 1) ∧ 3447 + 1 = 3448 := ⟨dB_old_26_m41_5_dec_12.2.2.2.2.2.2.2.2.2.2.2.2.2.2.2.2.2.2.2.2.2.2.2.2.2.2.2.1, by decide⟩
theorem d_L_3448 : decode YL.2.1 3448 = .ok (.aload_n 2, 1) ∧ 3448 + 1 = 3449 := ⟨dB_old_26_m41_5_dec_12.2.2.2.2.2.2.2.2.2.2.2.2.2.2.2.2.2.2.2.2.2.2.2.2.2.2.2.2.1, by decide⟩
theorem d_L_3449 : decode YL.2.1 3449 = .ok (.aload_n 0, 1) ∧ 3449 + 1 = 3450 := ⟨dB_old_26_m41_5_dec_12.2.2.2.2.2.2.2.2.2.2.2.2.2.2.2.2.2.2.2.2.2.2.2.2.2.2.2.2.2.1, by decide⟩
theorem dB_old_26_m41_5_dec_13 : dAll YL.2.1 [(3450, (.iload_n 3, 1)), (3451, (.iconst 1, 1)), (3452, (.iadd, 1)), (3453, (.iaload, 1)), (3454, (.aload_n 0, 1)), (3455, (.iload_n 3, 1)), (3456, (.iconst 2, 1)), (3457, (.iadd, 1)), (3458, (.iaload, 1)), (3459, (.aload_n 0, 1)), (3460, (.iload_n 3, 1)), (3461, (.iconst 3, 1)), (3462, (.iadd, 1)), (3463, (.iaload, 1)), (3464, (.aload_n 0, 1)), (3465, (.iload_n 3, 1)), (3466, (.iconst 4, 1)), (3467, (.iadd, 1)), (3468, (.iaload, 1)), (3469, (.invokevirtual 363, 3)), (3472, (.pop, 1)), (3473, (.goto 3, 3)), (3476, (.iinc 3 8, 3)), (3479, (.goto (-3461), 3)), (3482, (.iconst 1, 1)), (3483, (.ireturn, 1))] := dAll_of (by decide +kernel)
theorem d_L_3450 : decode YL.2.1 3450 = .ok (.iload_n 3, 1) ∧ 3450 + 1 = 3451 := ⟨dB_old_26_m41_5_dec_13.1, by decide⟩
theorem d_L_3451 : decode YL.2.1 3451 = .ok (.iconst 1, 1) ∧ 3451 + 1 = 3452 := ⟨dB_old_26_m41_5_dec_13.2.1, by decide⟩
theorem d_L_3452 : decode YL.2.1 3452 = .ok (.iadd, 1) ∧ 3452 + 1 = 3453 := ⟨dB_old_26_m41_5_dec_13.2.2.1, by decide⟩
theorem d_L_3453 : decode YL.2.1 3453 = .ok (.iaload, 1) ∧ 3453 + 1 = 3454 := ⟨dB_old_26_m41_5_dec_13.2.2.2.1, by decide⟩
theorem d_L_3454 : decode YL.2.1 3454 = .ok (.aload_n 0, 1) ∧ 3454 + 1 = 3455 := ⟨dB_old_26_m41_5_dec_13.2.2.2.2.1, by decide⟩
theorem d_L_3455 : decode YL.2.1 3455 = .ok (.iload_n 3, 1) ∧ 3455 + 1 = 3456 := ⟨dB_old_26_m41_5_dec_13.2.2.2.2.2.1, by decide⟩
theorem d_L_3456 : decode YL.2.1 3456 = .ok (.iconst 2, 1) ∧ 3456 + 1 = 3457 := ⟨dB_old_26_m41_5_dec_13.2.2.2.2.2.2.1, by decide⟩
theorem d_L_3457 : decode YL.2.1 3457 = .ok (.iadd, 1) ∧ 3457 + 1 = 3458 := ⟨dB_old_26_m41_5_dec_13.2.2.2.2.2.2.2.1, by decide⟩
theorem d_L_3458 : decode YL.2.1 3458 = .ok (.iaload, 1) ∧ 3458 + 1 = 3459 := ⟨dB_old_26_m41_5_dec_13.2.2.2.2.2.2.2.2.1, by decide⟩
theorem d_L_3459 : decode YL.2.1 3459 = .ok (.aload_n 0, 1) ∧ 3459 + 1 = 3460 := ⟨dB_old_26_m41_5_dec_13.2.2.2.2.2.2.2.2.2.1, by decide⟩
theorem d_L_3460 : decode YL.2.1 3460 = .ok (.iload_n 3, 1) ∧ 3460 + 1 = 3461 := ⟨dB_old_26_m41_5_dec_13.2.2.2.2.2.2.2.2.2.2.1, by decide⟩
theorem d_L_3461 : decode YL.2.1 3461 = .ok (.iconst 3, 1) ∧ 3461 + 1 = 3462 := ⟨dB_old_26_m41_5_dec_13.2.2.2.2.2.2.2.2.2.2.2.1, by decide⟩
theorem d_L_3462 : decode YL.2.1 3462 = .ok (.iadd, 1) ∧ 3462 + 1 = 3463 := ⟨dB_old_26_m41_5_dec_13.2.2.2.2.2.2.2.2.2.2.2.2.1, by decide⟩
theorem d_L_3463 : decode YL.2.1 3463 = .ok (.iaload, 1) ∧ 3463 + 1 = 3464 := ⟨dB_old_26_m41_5_dec_13.2.2.2.2.2.2.2.2.2.2.2.2.2.1, by decide⟩
theorem d_L_3464 : decode YL.2.1 3464 = .ok (.aload_n 0, 1) ∧ 3464 + 1 = 3465 := ⟨dB_old_26_m41_5_dec_13.2.2.2.2.2.2.2.2.2.2.2.2.2.2.1, by decide⟩
theorem d_L_3465 : decode YL.2.1 3465 = .ok (.iload_n 3, 1) ∧ 3465 + 1 = 3466 := ⟨dB_old_26_m41_5_dec_13.2.2.2.2.2.2.2.2.2.2.2.2.2.2.2.1, by decide⟩
theorem d_L_3466 : decode YL.2.1 3466 = .ok (.iconst 4, 1) ∧ 3466 + 1 = 3467 := ⟨dB_old_26_m41_5_dec_13.2.2.2.2.2.2.2.2.2.2.2.2.2.2.2.2.1, by decide⟩
theorem d_L_3467 : decode YL.2.1 3467 = .ok (.iadd, 1) ∧ 3467 + 1 = 3468 := ⟨dB_old_26_m41_5_dec_13.2.2.2.2.2.2.2.2.2.2.2.2.2.2.2.2.2.1, by decide⟩
theorem d_L_3468 : decode YL.2.1 3468 = .ok (.iaload, 1) ∧ 3468 + 1 = 3469 := ⟨dB_old_26_m41_5_dec_13.2.2.2.2.2.2.2.2.2.2.2.2.2.2.2.2.2.2.1, by decide⟩
theorem d_L_3469 : decode YL.2.1 3469 = .ok (.invokevirtual 363, 3) ∧ 3469 + 3 = 3472 := ⟨dB_old_26_m41_5_dec_13.2.2.2.2.2.2.2.2.2.2.2.2.2.2.2.2.2.2.2.1, by decide⟩
theorem d_L_3472 : decode YL.2.1 3472 = .ok (.pop, 1) ∧ 3472 + 1 = 3473 := ⟨dB_old_26_m41_5_dec_13.2.2.2.2.2.2.2.2.2.2.2.2.2.2.2.2.2.2.2.2.1, by decide⟩
theorem d_L_3473 : decode YL.2.1 3473 = .ok (.goto 3, 3) ∧ ((3473 : Nat) : Int) + 3 = ((3476 : Nat) : Int) ∧ 3473 + 3 = 3476 := ⟨dB_old_26_m41_5_dec_13.2.2.2.2.2.2.2.2.2.2.2.2.2.2.2.2.2.2.2.2.2.1, by decide⟩
theorem d_L_3476 : decode YL.2.1 3476 = .ok (.iinc 3 8, 3) ∧ 3476 + 3 = 3479 := ⟨dB_old_26_m41_5_dec_13.2.2.2.2.2.2.2.2.2.2.2.2.2.2.2.2.2.2.2.2.2.2.1, by decide⟩
theorem d_L_3479 : decode YL.2.1 3479 = .ok (.goto (-3461), 3) ∧ ((3479 : Nat) : Int) + (-3461) = ((18 : Nat) : Int) ∧ 3479 + 3 = 3482 := ⟨dB_old_26_m41_5_dec_13.2.2.2.2.2.2.2.2.2.2.2.2.2.2.2.2.2.2.2.2.2.2.2.1, by decide⟩
theorem d_L_3482 : decode YL.2.1 3482 = .ok (.iconst 1, 1) ∧ 3482 + 1 = 3483 := ⟨dB_old_26_m41_5_dec_13.2.2.2.2.2.2.2.2.2.2.2.2.2.2.2.2.2.2.2.2.2.2.2.2.1, by decide⟩
theorem d_L_3483 : decode YL.2.1 3483 = .ok (.ireturn, 1) := dB_old_26_m41_5_dec_13.2.2.2.2.2.2.2.2.2.2.2.2.2.2.2.2.2.2.2.2.2.2.2.2.2.1
