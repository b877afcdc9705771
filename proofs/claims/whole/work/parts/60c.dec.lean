/-! decode rows of the law -/
theorem dL_law_2991 : decode cL_law 2991 = .ok (.iload 5, 2) := by decide +kernel
theorem dL_law_2993 : decode cL_law 2993 = .ok (.iconst 1, 1) := by decide +kernel
theorem dL_law_2994 : decode cL_law 2994 = .ok (.iadd, 1) := by decide +kernel
theorem dL_law_2995 : decode cL_law 2995 = .ok (.iaload, 1) := by decide +kernel
theorem dL_law_2996 : decode cL_law 2996 = .ok (.aload_n 0, 1) := by decide +kernel
theorem dL_law_2997 : decode cL_law 2997 = .ok (.iload 5, 2) := by decide +kernel
theorem dL_law_2999 : decode cL_law 2999 = .ok (.iconst 2, 1) := by decide +kernel
theorem dL_law_3000 : decode cL_law 3000 = .ok (.iadd, 1) := by decide +kernel
theorem dL_law_3001 : decode cL_law 3001 = .ok (.iaload, 1) := by decide +kernel
theorem dL_law_3002 : decode cL_law 3002 = .ok (.aload 4, 2) := by decide +kernel
theorem dL_law_3004 : decode cL_law 3004 = .ok (.invokestatic 347, 3) := by decide +kernel
theorem dL_law_3007 : decode cL_law 3007 = .ok (.istore 6, 2) := by decide +kernel
theorem dL_law_3009 : decode cL_law 3009 = .ok (.aload_n 2, 1) := by decide +kernel
theorem dL_law_3010 : decode cL_law 3010 = .ok (.aload_n 0, 1) := by decide +kernel
theorem dL_law_3011 : decode cL_law 3011 = .ok (.iload 5, 2) := by decide +kernel
theorem dL_law_3013 : decode cL_law 3013 = .ok (.iconst 1, 1) := by decide +kernel
theorem dL_law_3014 : decode cL_law 3014 = .ok (.iadd, 1) := by decide +kernel
theorem dL_law_3015 : decode cL_law 3015 = .ok (.iaload, 1) := by decide +kernel
theorem dL_law_3016 : decode cL_law 3016 = .ok (.aload_n 0, 1) := by decide +kernel
theorem dL_law_3017 : decode cL_law 3017 = .ok (.iload 5, 2) := by decide +kernel
theorem dL_law_3019 : decode cL_law 3019 = .ok (.iconst 2, 1) := by decide +kernel
theorem dL_law_3020 : decode cL_law 3020 = .ok (.iadd, 1) := by decide +kernel
theorem dL_law_3021 : decode cL_law 3021 = .ok (.iaload, 1) := by decide +kernel
theorem dL_law_3022 : decode cL_law 3022 = .ok (.invokevirtual 350, 3) := by decide +kernel
theorem dL_law_3025 : decode cL_law 3025 = .ok (.fstore 7, 2) := by decide +kernel
theorem dL_law_3027 : decode cL_law 3027 = .ok (.aload_n 2, 1) := by decide +kernel
theorem dL_law_3028 : decode cL_law 3028 = .ok (.invokevirtual 206, 3) := by decide +kernel
theorem dL_law_3031 : decode cL_law 3031 = .ok (.iload 6, 2) := by decide +kernel
theorem dL_law_3033 : decode cL_law 3033 = .ok (.if_icmp .eq 5, 3) := by decide +kernel
theorem dL_law_3036 : decode cL_law 3036 = .ok (.iconst 0, 1) := by decide +kernel
theorem dL_law_3037 : decode cL_law 3037 = .ok (.ireturn, 1) := by decide +kernel
theorem dL_law_3038 : decode cL_law 3038 = .ok (.iload 6, 2) := by decide +kernel
theorem dL_law_3040 : decode cL_law 3040 = .ok (.ifCond .ne 36, 3) := by decide +kernel
theorem dL_law_3043 : decode cL_law 3043 = .ok (.aload 4, 2) := by decide +kernel
theorem dL_law_3045 : decode cL_law 3045 = .ok (.iconst 0, 1) := by decide +kernel
theorem dL_law_3046 : decode cL_law 3046 = .ok (.daload, 1) := by decide +kernel
theorem dL_law_3047 : decode cL_law 3047 = .ok (.fload 7, 2) := by decide +kernel
theorem dL_law_3049 : decode cL_law 3049 = .ok (.f2d, 1) := by decide +kernel
theorem dL_law_3050 : decode cL_law 3050 = .ok (.dcmp .l, 1) := by decide +kernel
theorem dL_law_3051 : decode cL_law 3051 = .ok (.ifCond .eq 25, 3) := by decide +kernel
theorem dL_law_3054 : decode cL_law 3054 = .ok (.aload 4, 2) := by decide +kernel
theorem dL_law_3056 : decode cL_law 3056 = .ok (.iconst 0, 1) := by decide +kernel
theorem dL_law_3057 : decode cL_law 3057 = .ok (.daload, 1) := by decide +kernel
theorem dL_law_3058 : decode cL_law 3058 = .ok (.aload 4, 2) := by decide +kernel
theorem dL_law_3060 : decode cL_law 3060 = .ok (.iconst 0, 1) := by decide +kernel
theorem dL_law_3061 : decode cL_law 3061 = .ok (.daload, 1) := by decide +kernel
theorem dL_law_3062 : decode cL_law 3062 = .ok (.dcmp .l, 1) := by decide +kernel
theorem dL_law_3063 : decode cL_law 3063 = .ok (.ifCond .eq 11, 3) := by decide +kernel
theorem dL_law_3066 : decode cL_law 3066 = .ok (.fload 7, 2) := by decide +kernel
theorem dL_law_3068 : decode cL_law 3068 = .ok (.fload 7, 2) := by decide +kernel
theorem dL_law_3070 : decode cL_law 3070 = .ok (.fcmp .l, 1) := by decide +kernel
theorem dL_law_3071 : decode cL_law 3071 = .ok (.ifCond .ne 5, 3) := by decide +kernel
theorem dL_law_3074 : decode cL_law 3074 = .ok (.iconst 0, 1) := by decide +kernel
theorem dL_law_3075 : decode cL_law 3075 = .ok (.ireturn, 1) := by decide +kernel
theorem dL_law_3076 : decode cL_law 3076 = .ok (.goto 1281, 3) := by decide +kernel
theorem dL_law_3079 : decode cL_law 3079 = .ok (.aload_n 1, 1) := by decide +kernel
theorem dL_law_3080 : decode cL_law 3080 = .ok (.aload_n 0, 1) := by decide +kernel
theorem dL_law_3081 : decode cL_law 3081 = .ok (.iload 5, 2) := by decide +kernel
theorem dL_law_3083 : decode cL_law 3083 = .ok (.iconst 1, 1) := by decide +kernel
theorem dL_law_3084 : decode cL_law 3084 = .ok (.iadd, 1) := by decide +kernel
theorem dL_law_3085 : decode cL_law 3085 = .ok (.iaload, 1) := by decide +kernel
theorem dL_law_3086 : decode cL_law 3086 = .ok (.aload_n 3, 1) := by decide +kernel
theorem dL_law_3087 : decode cL_law 3087 = .ok (.invokestatic 351, 3) := by decide +kernel
theorem dL_law_3090 : decode cL_law 3090 = .ok (.istore 6, 2) := by decide +kernel
theorem dL_law_3092 : decode cL_law 3092 = .ok (.aload_n 2, 1) := by decide +kernel
theorem dL_law_3093 : decode cL_law 3093 = .ok (.aload_n 0, 1) := by decide +kernel
theorem dL_law_3094 : decode cL_law 3094 = .ok (.iload 5, 2) := by decide +kernel
theorem dL_law_3096 : decode cL_law 3096 = .ok (.iconst 1, 1) := by decide +kernel
theorem dL_law_3097 : decode cL_law 3097 = .ok (.iadd, 1) := by decide +kernel
theorem dL_law_3098 : decode cL_law 3098 = .ok (.iaload, 1) := by decide +kernel
theorem dL_law_3099 : decode cL_law 3099 = .ok (.invokevirtual 353, 3) := by decide +kernel
theorem dL_law_3102 : decode cL_law 3102 = .ok (.istore 7, 2) := by decide +kernel
theorem dL_law_3104 : decode cL_law 3104 = .ok (.aload_n 2, 1) := by decide +kernel
theorem dL_law_3105 : decode cL_law 3105 = .ok (.invokevirtual 206, 3) := by decide +kernel
theorem dL_law_3108 : decode cL_law 3108 = .ok (.iload 6, 2) := by decide +kernel
theorem dL_law_3110 : decode cL_law 3110 = .ok (.if_icmp .eq 5, 3) := by decide +kernel
theorem dL_law_3113 : decode cL_law 3113 = .ok (.iconst 0, 1) := by decide +kernel
theorem dL_law_3114 : decode cL_law 3114 = .ok (.ireturn, 1) := by decide +kernel
theorem dL_law_3115 : decode cL_law 3115 = .ok (.iload 6, 2) := by decide +kernel
theorem dL_law_3117 : decode cL_law 3117 = .ok (.ifCond .ne 15, 3) := by decide +kernel
theorem dL_law_3120 : decode cL_law 3120 = .ok (.aload_n 3, 1) := by decide +kernel
theorem dL_law_3121 : decode cL_law 3121 = .ok (.iconst 0, 1) := by decide +kernel
theorem dL_law_3122 : decode cL_law 3122 = .ok (.laload, 1) := by decide +kernel
theorem dL_law_3123 : decode cL_law 3123 = .ok (.iload 7, 2) := by decide +kernel
theorem dL_law_3125 : decode cL_law 3125 = .ok (.i2l, 1) := by decide +kernel
theorem dL_law_3126 : decode cL_law 3126 = .ok (.lcmp, 1) := by decide +kernel
theorem dL_law_3127 : decode cL_law 3127 = .ok (.ifCond .eq 5, 3) := by decide +kernel
theorem dL_law_3130 : decode cL_law 3130 = .ok (.iconst 0, 1) := by decide +kernel
theorem dL_law_3131 : decode cL_law 3131 = .ok (.ireturn, 1) := by decide +kernel
theorem dL_law_3132 : decode cL_law 3132 = .ok (.goto 1225, 3) := by decide +kernel
theorem dL_law_3135 : decode cL_law 3135 = .ok (.aload_n 1, 1) := by decide +kernel
theorem dL_law_3136 : decode cL_law 3136 = .ok (.aload_n 0, 1) := by decide +kernel
theorem dL_law_3137 : decode cL_law 3137 = .ok (.iload 5, 2) := by decide +kernel
theorem dL_law_3139 : decode cL_law 3139 = .ok (.iconst 1, 1) := by decide +kernel
theorem dL_law_3140 : decode cL_law 3140 = .ok (.iadd, 1) := by decide +kernel
theorem dL_law_3141 : decode cL_law 3141 = .ok (.iaload, 1) := by decide +kernel
theorem dL_law_3142 : decode cL_law 3142 = .ok (.aload_n 3, 1) := by decide +kernel
theorem dL_law_3143 : decode cL_law 3143 = .ok (.invokestatic 354, 3) := by decide +kernel
theorem dL_law_3146 : decode cL_law 3146 = .ok (.istore 6, 2) := by decide +kernel
theorem dL_law_3148 : decode cL_law 3148 = .ok (.aload_n 2, 1) := by decide +kernel
theorem dL_law_3149 : decode cL_law 3149 = .ok (.aload_n 0, 1) := by decide +kernel
theorem dL_law_3150 : decode cL_law 3150 = .ok (.iload 5, 2) := by decide +kernel
theorem dL_law_3152 : decode cL_law 3152 = .ok (.iconst 1, 1) := by decide +kernel
theorem dL_law_3153 : decode cL_law 3153 = .ok (.iadd, 1) := by decide +kernel
theorem dL_law_3154 : decode cL_law 3154 = .ok (.iaload, 1) := by decide +kernel
theorem dL_law_3155 : decode cL_law 3155 = .ok (.invokevirtual 356, 3) := by decide +kernel
theorem dL_law_3158 : decode cL_law 3158 = .ok (.istore 7, 2) := by decide +kernel
theorem dL_law_3160 : decode cL_law 3160 = .ok (.aload_n 2, 1) := by decide +kernel
theorem dL_law_3161 : decode cL_law 3161 = .ok (.invokevirtual 206, 3) := by decide +kernel
theorem dL_law_3164 : decode cL_law 3164 = .ok (.iload 6, 2) := by decide +kernel
theorem dL_law_3166 : decode cL_law 3166 = .ok (.if_icmp .eq 5, 3) := by decide +kernel
theorem dL_law_3169 : decode cL_law 3169 = .ok (.iconst 0, 1) := by decide +kernel
theorem dL_law_3170 : decode cL_law 3170 = .ok (.ireturn, 1) := by decide +kernel
theorem dL_law_3171 : decode cL_law 3171 = .ok (.iload 6, 2) := by decide +kernel
theorem dL_law_3173 : decode cL_law 3173 = .ok (.ifCond .ne 15, 3) := by decide +kernel
theorem dL_law_3176 : decode cL_law 3176 = .ok (.aload_n 3, 1) := by decide +kernel
theorem dL_law_3177 : decode cL_law 3177 = .ok (.iconst 0, 1) := by decide +kernel
theorem dL_law_3178 : decode cL_law 3178 = .ok (.laload, 1) := by decide +kernel
theorem dL_law_3179 : decode cL_law 3179 = .ok (.iload 7, 2) := by decide +kernel
theorem dL_law_3181 : decode cL_law 3181 = .ok (.i2l, 1) := by decide +kernel
theorem dL_law_3182 : decode cL_law 3182 = .ok (.lcmp, 1) := by decide +kernel
theorem dL_law_3183 : decode cL_law 3183 = .ok (.ifCond .eq 5, 3) := by decide +kernel
theorem dL_law_3186 : decode cL_law 3186 = .ok (.iconst 0, 1) := by decide +kernel
theorem dL_law_3187 : decode cL_law 3187 = .ok (.ireturn, 1) := by decide +kernel
theorem dL_law_3188 : decode cL_law 3188 = .ok (.goto 1169, 3) := by decide +kernel
theorem dL_law_3191 : decode cL_law 3191 = .ok (.aload_n 1, 1) := by decide +kernel
theorem dL_law_3192 : decode cL_law 3192 = .ok (.aload_n 0, 1) := by decide +kernel
theorem dL_law_3193 : decode cL_law 3193 = .ok (.iload 5, 2) := by decide +kernel
theorem dL_law_3195 : decode cL_law 3195 = .ok (.iconst 1, 1) := by decide +kernel
theorem dL_law_3196 : decode cL_law 3196 = .ok (.iadd, 1) := by decide +kernel
theorem dL_law_3197 : decode cL_law 3197 = .ok (.iaload, 1) := by decide +kernel
theorem dL_law_3198 : decode cL_law 3198 = .ok (.aload_n 3, 1) := by decide +kernel
theorem dL_law_3199 : decode cL_law 3199 = .ok (.invokestatic 357, 3) := by decide +kernel
theorem dL_law_3202 : decode cL_law 3202 = .ok (.istore 6, 2) := by decide +kernel
theorem dL_law_3204 : decode cL_law 3204 = .ok (.aload_n 2, 1) := by decide +kernel
theorem dL_law_3205 : decode cL_law 3205 = .ok (.aload_n 0, 1) := by decide +kernel
theorem dL_law_3206 : decode cL_law 3206 = .ok (.iload 5, 2) := by decide +kernel
theorem dL_law_3208 : decode cL_law 3208 = .ok (.iconst 1, 1) := by decide +kernel
theorem dL_law_3209 : decode cL_law 3209 = .ok (.iadd, 1) := by decide +kernel
theorem dL_law_3210 : decode cL_law 3210 = .ok (.iaload, 1) := by decide +kernel
theorem dL_law_3211 : decode cL_law 3211 = .ok (.invokevirtual 359, 3) := by decide +kernel
theorem dL_law_3214 : decode cL_law 3214 = .ok (.istore 7, 2) := by decide +kernel
theorem dL_law_3216 : decode cL_law 3216 = .ok (.aload_n 2, 1) := by decide +kernel
theorem dL_law_3217 : decode cL_law 3217 = .ok (.invokevirtual 206, 3) := by decide +kernel
theorem dL_law_3220 : decode cL_law 3220 = .ok (.iload 6, 2) := by decide +kernel
theorem dL_law_3222 : decode cL_law 3222 = .ok (.if_icmp .eq 5, 3) := by decide +kernel
theorem dL_law_3225 : decode cL_law 3225 = .ok (.iconst 0, 1) := by decide +kernel
theorem dL_law_3226 : decode cL_law 3226 = .ok (.ireturn, 1) := by decide +kernel
theorem dL_law_3227 : decode cL_law 3227 = .ok (.iload 6, 2) := by decide +kernel
theorem dL_law_3229 : decode cL_law 3229 = .ok (.ifCond .ne 15, 3) := by decide +kernel
theorem dL_law_3232 : decode cL_law 3232 = .ok (.aload_n 3, 1) := by decide +kernel
theorem dL_law_3233 : decode cL_law 3233 = .ok (.iconst 0, 1) := by decide +kernel
theorem dL_law_3234 : decode cL_law 3234 = .ok (.laload, 1) := by decide +kernel
theorem dL_law_3235 : decode cL_law 3235 = .ok (.iload 7, 2) := by decide +kernel
theorem dL_law_3237 : decode cL_law 3237 = .ok (.i2l, 1) := by decide +kernel
theorem dL_law_3238 : decode cL_law 3238 = .ok (.lcmp, 1) := by decide +kernel
theorem dL_law_3239 : decode cL_law 3239 = .ok (.ifCond .eq 5, 3) := by decide +kernel
theorem dL_law_3242 : decode cL_law 3242 = .ok (.iconst 0, 1) := by decide +kernel
theorem dL_law_3243 : decode cL_law 3243 = .ok (.ireturn, 1) := by decide +kernel
theorem dL_law_3244 : decode cL_law 3244 = .ok (.goto 1113, 3) := by decide +kernel
theorem dL_law_3247 : decode cL_law 3247 = .ok (.aload_n 1, 1) := by decide +kernel
theorem dL_law_3248 : decode cL_law 3248 = .ok (.aload_n 0, 1) := by decide +kernel
theorem dL_law_3249 : decode cL_law 3249 = .ok (.iload 5, 2) := by decide +kernel
theorem dL_law_3251 : decode cL_law 3251 = .ok (.iconst 1, 1) := by decide +kernel
theorem dL_law_3252 : decode cL_law 3252 = .ok (.iadd, 1) := by decide +kernel
theorem dL_law_3253 : decode cL_law 3253 = .ok (.iaload, 1) := by decide +kernel
theorem dL_law_3254 : decode cL_law 3254 = .ok (.aload_n 0, 1) := by decide +kernel
theorem dL_law_3255 : decode cL_law 3255 = .ok (.iload 5, 2) := by decide +kernel
theorem dL_law_3257 : decode cL_law 3257 = .ok (.iconst 2, 1) := by decide +kernel
theorem dL_law_3258 : decode cL_law 3258 = .ok (.iadd, 1) := by decide +kernel
theorem dL_law_3259 : decode cL_law 3259 = .ok (.iaload, 1) := by decide +kernel
theorem dL_law_3260 : decode cL_law 3260 = .ok (.aload_n 0, 1) := by decide +kernel
theorem dL_law_3261 : decode cL_law 3261 = .ok (.iload 5, 2) := by decide +kernel
theorem dL_law_3263 : decode cL_law 3263 = .ok (.iconst 3, 1) := by decide +kernel
theorem dL_law_3264 : decode cL_law 3264 = .ok (.iadd, 1) := by decide +kernel
theorem dL_law_3265 : decode cL_law 3265 = .ok (.iaload, 1) := by decide +kernel
theorem dL_law_3266 : decode cL_law 3266 = .ok (.aload_n 3, 1) := by decide +kernel
theorem dL_law_3267 : decode cL_law 3267 = .ok (.invokestatic 360, 3) := by decide +kernel
theorem dL_law_3270 : decode cL_law 3270 = .ok (.istore 6, 2) := by decide +kernel
theorem dL_law_3272 : decode cL_law 3272 = .ok (.aload_n 2, 1) := by decide +kernel
theorem dL_law_3273 : decode cL_law 3273 = .ok (.aload_n 0, 1) := by decide +kernel
theorem dL_law_3274 : decode cL_law 3274 = .ok (.iload 5, 2) := by decide +kernel
theorem dL_law_3276 : decode cL_law 3276 = .ok (.iconst 1, 1) := by decide +kernel
theorem dL_law_3277 : decode cL_law 3277 = .ok (.iadd, 1) := by decide +kernel
theorem dL_law_3278 : decode cL_law 3278 = .ok (.iaload, 1) := by decide +kernel
theorem dL_law_3279 : decode cL_law 3279 = .ok (.aload_n 0, 1) := by decide +kernel
theorem dL_law_3280 : decode cL_law 3280 = .ok (.iload 5, 2) := by decide +kernel
theorem dL_law_3282 : decode cL_law 3282 = .ok (.iconst 2, 1) := by decide +kernel
theorem dL_law_3283 : decode cL_law 3283 = .ok (.iadd, 1) := by decide +kernel
theorem dL_law_3284 : decode cL_law 3284 = .ok (.iaload, 1) := by decide +kernel
theorem dL_law_3285 : decode cL_law 3285 = .ok (.aload_n 0, 1) := by decide +kernel
theorem dL_law_3286 : decode cL_law 3286 = .ok (.iload 5, 2) := by decide +kernel
theorem dL_law_3288 : decode cL_law 3288 = .ok (.iconst 3, 1) := by decide +kernel
theorem dL_law_3289 : decode cL_law 3289 = .ok (.iadd, 1) := by decide +kernel
theorem dL_law_3290 : decode cL_law 3290 = .ok (.iaload, 1) := by decide +kernel
theorem dL_law_3291 : decode cL_law 3291 = .ok (.invokevirtual 362, 3) := by decide +kernel
theorem dL_law_3294 : decode cL_law 3294 = .ok (.istore 7, 2) := by decide +kernel
theorem dL_law_3296 : decode cL_law 3296 = .ok (.aload_n 2, 1) := by decide +kernel
theorem dL_law_3297 : decode cL_law 3297 = .ok (.invokevirtual 206, 3) := by decide +kernel
theorem dL_law_3300 : decode cL_law 3300 = .ok (.iload 6, 2) := by decide +kernel
theorem dL_law_3302 : decode cL_law 3302 = .ok (.if_icmp .eq 5, 3) := by decide +kernel
theorem dL_law_3305 : decode cL_law 3305 = .ok (.iconst 0, 1) := by decide +kernel
theorem dL_law_3306 : decode cL_law 3306 = .ok (.ireturn, 1) := by decide +kernel
theorem dL_law_3307 : decode cL_law 3307 = .ok (.iload 6, 2) := by decide +kernel
theorem dL_law_3309 : decode cL_law 3309 = .ok (.ifCond .ne 15, 3) := by decide +kernel
theorem dL_law_3312 : decode cL_law 3312 = .ok (.aload_n 3, 1) := by decide +kernel
theorem dL_law_3313 : decode cL_law 3313 = .ok (.iconst 0, 1) := by decide +kernel
theorem dL_law_3314 : decode cL_law 3314 = .ok (.laload, 1) := by decide +kernel
theorem dL_law_3315 : decode cL_law 3315 = .ok (.iload 7, 2) := by decide +kernel
theorem dL_law_3317 : decode cL_law 3317 = .ok (.i2l, 1) := by decide +kernel
theorem dL_law_3318 : decode cL_law 3318 = .ok (.lcmp, 1) := by decide +kernel
theorem dL_law_3319 : decode cL_law 3319 = .ok (.ifCond .eq 5, 3) := by decide +kernel
theorem dL_law_3322 : decode cL_law 3322 = .ok (.iconst 0, 1) := by decide +kernel
theorem dL_law_3323 : decode cL_law 3323 = .ok (.ireturn, 1) := by decide +kernel
theorem dL_law_3324 : decode cL_law 3324 = .ok (.goto 1033, 3) := by decide +kernel
theorem dL_law_3327 : decode cL_law 3327 = .ok (.aload_n 1, 1) := by decide +kernel
theorem dL_law_3328 : decode cL_law 3328 = .ok (.aload_n 0, 1) := by decide +kernel
theorem dL_law_3329 : decode cL_law 3329 = .ok (.iload 5, 2) := by decide +kernel
theorem dL_law_3331 : decode cL_law 3331 = .ok (.iconst 1, 1) := by decide +kernel
theorem dL_law_3332 : decode cL_law 3332 = .ok (.iadd, 1) := by decide +kernel
theorem dL_law_3333 : decode cL_law 3333 = .ok (.iaload, 1) := by decide +kernel
theorem dL_law_3334 : decode cL_law 3334 = .ok (.aload_n 0, 1) := by decide +kernel
theorem dL_law_3335 : decode cL_law 3335 = .ok (.iload 5, 2) := by decide +kernel
theorem dL_law_3337 : decode cL_law 3337 = .ok (.iconst 2, 1) := by decide +kernel
theorem dL_law_3338 : decode cL_law 3338 = .ok (.iadd, 1) := by decide +kernel
theorem dL_law_3339 : decode cL_law 3339 = .ok (.iaload, 1) := by decide +kernel
theorem dL_law_3340 : decode cL_law 3340 = .ok (.aload_n 0, 1) := by decide +kernel
theorem dL_law_3341 : decode cL_law 3341 = .ok (.iload 5, 2) := by decide +kernel
theorem dL_law_3343 : decode cL_law 3343 = .ok (.iconst 3, 1) := by decide +kernel
theorem dL_law_3344 : decode cL_law 3344 = .ok (.iadd, 1) := by decide +kernel
theorem dL_law_3345 : decode cL_law 3345 = .ok (.iaload, 1) := by decide +kernel
theorem dL_law_3346 : decode cL_law 3346 = .ok (.aload_n 0, 1) := by decide +kernel
theorem dL_law_3347 : decode cL_law 3347 = .ok (.iload 5, 2) := by decide +kernel
theorem dL_law_3349 : decode cL_law 3349 = .ok (.iconst 4, 1) := by decide +kernel
theorem dL_law_3350 : decode cL_law 3350 = .ok (.iadd, 1) := by decide +kernel
theorem dL_law_3351 : decode cL_law 3351 = .ok (.iaload, 1) := by decide +kernel
theorem dL_law_3352 : decode cL_law 3352 = .ok (.aload_n 3, 1) := by decide +kernel
theorem dL_law_3353 : decode cL_law 3353 = .ok (.invokestatic 363, 3) := by decide +kernel
theorem dL_law_3356 : decode cL_law 3356 = .ok (.istore 6, 2) := by decide +kernel
theorem dL_law_3358 : decode cL_law 3358 = .ok (.aload_n 2, 1) := by decide +kernel
theorem dL_law_3359 : decode cL_law 3359 = .ok (.aload_n 0, 1) := by decide +kernel
theorem dL_law_3360 : decode cL_law 3360 = .ok (.iload 5, 2) := by decide +kernel
theorem dL_law_3362 : decode cL_law 3362 = .ok (.iconst 1, 1) := by decide +kernel
theorem dL_law_3363 : decode cL_law 3363 = .ok (.iadd, 1) := by decide +kernel
theorem dL_law_3364 : decode cL_law 3364 = .ok (.iaload, 1) := by decide +kernel
theorem dL_law_3365 : decode cL_law 3365 = .ok (.aload_n 0, 1) := by decide +kernel
theorem dL_law_3366 : decode cL_law 3366 = .ok (.iload 5, 2) := by decide +kernel
theorem dL_law_3368 : decode cL_law 3368 = .ok (.iconst 2, 1) := by decide +kernel
theorem dL_law_3369 : decode cL_law 3369 = .ok (.iadd, 1) := by decide +kernel
theorem dL_law_3370 : decode cL_law 3370 = .ok (.iaload, 1) := by decide +kernel
theorem dL_law_3371 : decode cL_law 3371 = .ok (.aload_n 0, 1) := by decide +kernel
theorem dL_law_3372 : decode cL_law 3372 = .ok (.iload 5, 2) := by decide +kernel
theorem dL_law_3374 : decode cL_law 3374 = .ok (.iconst 3, 1) := by decide +kernel
theorem dL_law_3375 : decode cL_law 3375 = .ok (.iadd, 1) := by decide +kernel
theorem dL_law_3376 : decode cL_law 3376 = .ok (.iaload, 1) := by decide +kernel
theorem dL_law_3377 : decode cL_law 3377 = .ok (.aload_n 0, 1) := by decide +kernel
theorem dL_law_3378 : decode cL_law 3378 = .ok (.iload 5, 2) := by decide +kernel
theorem dL_law_3380 : decode cL_law 3380 = .ok (.iconst 4, 1) := by decide +kernel
theorem dL_law_3381 : decode cL_law 3381 = .ok (.iadd, 1) := by decide +kernel
theorem dL_law_3382 : decode cL_law 3382 = .ok (.iaload, 1) := by decide +kernel
theorem dL_law_3383 : decode cL_law 3383 = .ok (.invokevirtual 365, 3) := by decide +kernel
theorem dL_law_3386 : decode cL_law 3386 = .ok (.istore 7, 2) := by decide +kernel
theorem dL_law_3388 : decode cL_law 3388 = .ok (.aload_n 2, 1) := by decide +kernel
theorem dL_law_3389 : decode cL_law 3389 = .ok (.invokevirtual 206, 3) := by decide +kernel
theorem dL_law_3392 : decode cL_law 3392 = .ok (.iload 6, 2) := by decide +kernel
theorem dL_law_3394 : decode cL_law 3394 = .ok (.if_icmp .eq 5, 3) := by decide +kernel
theorem dL_law_3397 : decode cL_law 3397 = .ok (.iconst 0, 1) := by decide +kernel
theorem dL_law_3398 : decode cL_law 3398 = .ok (.ireturn, 1) := by decide +kernel
theorem dL_law_3399 : decode cL_law 3399 = .ok (.iload 6, 2) := by decide +kernel
theorem dL_law_3401 : decode cL_law 3401 = .ok (.ifCond .ne 15, 3) := by decide +kernel
theorem dL_law_3404 : decode cL_law 3404 = .ok (.aload_n 3, 1) := by decide +kernel
theorem dL_law_3405 : decode cL_law 3405 = .ok (.iconst 0, 1) := by decide +kernel
theorem dL_law_3406 : decode cL_law 3406 = .ok (.laload, 1) := by decide +kernel
theorem dL_law_3407 : decode cL_law 3407 = .ok (.iload 7, 2) := by decide +kernel
theorem dL_law_3409 : decode cL_law 3409 = .ok (.i2l, 1) := by decide +kernel
theorem dL_law_3410 : decode cL_law 3410 = .ok (.lcmp, 1) := by decide +kernel
theorem dL_law_3411 : decode cL_law 3411 = .ok (.ifCond .eq 5, 3) := by decide +kernel
theorem dL_law_3414 : decode cL_law 3414 = .ok (.iconst 0, 1) := by decide +kernel
theorem dL_law_3415 : decode cL_law 3415 = .ok (.ireturn, 1) := by decide +kernel
theorem dL_law_3416 : decode cL_law 3416 = .ok (.goto 941, 3) := by decide +kernel
theorem dL_law_3419 : decode cL_law 3419 = .ok (.aload_n 1, 1) := by decide +kernel
theorem dL_law_3420 : decode cL_law 3420 = .ok (.aload_n 0, 1) := by decide +kernel
theorem dL_law_3421 : decode cL_law 3421 = .ok (.iload 5, 2) := by decide +kernel
theorem dL_law_3423 : decode cL_law 3423 = .ok (.iconst 1, 1) := by decide +kernel
theorem dL_law_3424 : decode cL_law 3424 = .ok (.iadd, 1) := by decide +kernel
theorem dL_law_3425 : decode cL_law 3425 = .ok (.iaload, 1) := by decide +kernel
theorem dL_law_3426 : decode cL_law 3426 = .ok (.aload_n 0, 1) := by decide +kernel
theorem dL_law_3427 : decode cL_law 3427 = .ok (.iload 5, 2) := by decide +kernel
theorem dL_law_3429 : decode cL_law 3429 = .ok (.iconst 2, 1) := by decide +kernel
theorem dL_law_3430 : decode cL_law 3430 = .ok (.iadd, 1) := by decide +kernel
theorem dL_law_3431 : decode cL_law 3431 = .ok (.iaload, 1) := by decide +kernel
theorem dL_law_3432 : decode cL_law 3432 = .ok (.aload_n 0, 1) := by decide +kernel
theorem dL_law_3433 : decode cL_law 3433 = .ok (.iload 5, 2) := by decide +kernel
theorem dL_law_3435 : decode cL_law 3435 = .ok (.iconst 3, 1) := by decide +kernel
theorem dL_law_3436 : decode cL_law 3436 = .ok (.iadd, 1) := by decide +kernel
theorem dL_law_3437 : decode cL_law 3437 = .ok (.iaload, 1) := by decide +kernel
theorem dL_law_3438 : decode cL_law 3438 = .ok (.aload_n 0, 1) := by decide +kernel
theorem dL_law_3439 : decode cL_law 3439 = .ok (.iload 5, 2) := by decide +kernel
theorem dL_law_3441 : decode cL_law 3441 = .ok (.iconst 4, 1) := by decide +kernel
theorem dL_law_3442 : decode cL_law 3442 = .ok (.iadd, 1) := by decide +kernel
theorem dL_law_3443 : decode cL_law 3443 = .ok (.iaload, 1) := by decide +kernel
theorem dL_law_3444 : decode cL_law 3444 = .ok (.aload_n 3, 1) := by decide +kernel
theorem dL_law_3445 : decode cL_law 3445 = .ok (.invokestatic 366, 3) := by decide +kernel
theorem dL_law_3448 : decode cL_law 3448 = .ok (.istore 6, 2) := by decide +kernel
theorem dL_law_3450 : decode cL_law 3450 = .ok (.aload_n 2, 1) := by decide +kernel
theorem dL_law_3451 : decode cL_law 3451 = .ok (.aload_n 0, 1) := by decide +kernel
theorem dL_law_3452 : decode cL_law 3452 = .ok (.iload 5, 2) := by decide +kernel
theorem dL_law_3454 : decode cL_law 3454 = .ok (.iconst 1, 1) := by decide +kernel
theorem dL_law_3455 : decode cL_law 3455 = .ok (.iadd, 1) := by decide +kernel
theorem dL_law_3456 : decode cL_law 3456 = .ok (.iaload, 1) := by decide +kernel
theorem dL_law_3457 : decode cL_law 3457 = .ok (.aload_n 0, 1) := by decide +kernel
theorem dL_law_3458 : decode cL_law 3458 = .ok (.iload 5, 2) := by decide +kernel
theorem dL_law_3460 : decode cL_law 3460 = .ok (.iconst 2, 1) := by decide +kernel
theorem dL_law_3461 : decode cL_law 3461 = .ok (.iadd, 1) := by decide +kernel
theorem dL_law_3462 : decode cL_law 3462 = .ok (.iaload, 1) := by decide +kernel
theorem dL_law_3463 : decode cL_law 3463 = .ok (.aload_n 0, 1) := by decide +kernel
theorem dL_law_3464 : decode cL_law 3464 = .ok (.iload 5, 2) := by decide +kernel
theorem dL_law_3466 : decode cL_law 3466 = .ok (.iconst 3, 1) := by decide +kernel
theorem dL_law_3467 : decode cL_law 3467 = .ok (.iadd, 1) := by decide +kernel
theorem dL_law_3468 : decode cL_law 3468 = .ok (.iaload, 1) := by decide +kernel
theorem dL_law_3469 : decode cL_law 3469 = .ok (.aload_n 0, 1) := by decide +kernel
theorem dL_law_3470 : decode cL_law 3470 = .ok (.iload 5, 2) := by decide +kernel
theorem dL_law_3472 : decode cL_law 3472 = .ok (.iconst 4, 1) := by decide +kernel
theorem dL_law_3473 : decode cL_law 3473 = .ok (.iadd, 1) := by decide +kernel
theorem dL_law_3474 : decode cL_law 3474 = .ok (.iaload, 1) := by decide +kernel
theorem dL_law_3475 : decode cL_law 3475 = .ok (.invokevirtual 368, 3) := by decide +kernel
theorem dL_law_3478 : decode cL_law 3478 = .ok (.istore 7, 2) := by decide +kernel
theorem dL_law_3480 : decode cL_law 3480 = .ok (.aload_n 2, 1) := by decide +kernel
theorem dL_law_3481 : decode cL_law 3481 = .ok (.invokevirtual 206, 3) := by decide +kernel
theorem dL_law_3484 : decode cL_law 3484 = .ok (.iload 6, 2) := by decide +kernel
theorem dL_law_3486 : decode cL_law 3486 = .ok (.if_icmp .eq 5, 3) := by decide +kernel
theorem dL_law_3489 : decode cL_law 3489 = .ok (.iconst 0, 1) := by decide +kernel
theorem dL_law_3490 : decode cL_law 3490 = .ok (.ireturn, 1) := by decide +kernel
theorem dL_law_3491 : decode cL_law 3491 = .ok (.iload 6, 2) := by decide +kernel
theorem dL_law_3493 : decode cL_law 3493 = .ok (.ifCond .ne 15, 3) := by decide +kernel
theorem dL_law_3496 : decode cL_law 3496 = .ok (.aload_n 3, 1) := by decide +kernel
theorem dL_law_3497 : decode cL_law 3497 = .ok (.iconst 0, 1) := by decide +kernel
theorem dL_law_3498 : decode cL_law 3498 = .ok (.laload, 1) := by decide +kernel
theorem dL_law_3499 : decode cL_law 3499 = .ok (.iload 7, 2) := by decide +kernel
theorem dL_law_3501 : decode cL_law 3501 = .ok (.i2l, 1) := by decide +kernel
theorem dL_law_3502 : decode cL_law 3502 = .ok (.lcmp, 1) := by decide +kernel
theorem dL_law_3503 : decode cL_law 3503 = .ok (.ifCond .eq 5, 3) := by decide +kernel
theorem dL_law_3506 : decode cL_law 3506 = .ok (.iconst 0, 1) := by decide +kernel
theorem dL_law_3507 : decode cL_law 3507 = .ok (.ireturn, 1) := by decide +kernel
theorem dL_law_3508 : decode cL_law 3508 = .ok (.goto 849, 3) := by decide +kernel
theorem dL_law_3511 : decode cL_law 3511 = .ok (.aload_n 1, 1) := by decide +kernel
theorem dL_law_3512 : decode cL_law 3512 = .ok (.aload_n 0, 1) := by decide +kernel
theorem dL_law_3513 : decode cL_law 3513 = .ok (.iload 5, 2) := by decide +kernel
theorem dL_law_3515 : decode cL_law 3515 = .ok (.iconst 1, 1) := by decide +kernel
theorem dL_law_3516 : decode cL_law 3516 = .ok (.iadd, 1) := by decide +kernel
theorem dL_law_3517 : decode cL_law 3517 = .ok (.iaload, 1) := by decide +kernel
theorem dL_law_3518 : decode cL_law 3518 = .ok (.aload_n 0, 1) := by decide +kernel
theorem dL_law_3519 : decode cL_law 3519 = .ok (.iload 5, 2) := by decide +kernel
theorem dL_law_3521 : decode cL_law 3521 = .ok (.iconst 2, 1) := by decide +kernel
theorem dL_law_3522 : decode cL_law 3522 = .ok (.iadd, 1) := by decide +kernel
theorem dL_law_3523 : decode cL_law 3523 = .ok (.iaload, 1) := by decide +kernel
theorem dL_law_3524 : decode cL_law 3524 = .ok (.aload_n 0, 1) := by decide +kernel
theorem dL_law_3525 : decode cL_law 3525 = .ok (.iload 5, 2) := by decide +kernel
theorem dL_law_3527 : decode cL_law 3527 = .ok (.iconst 3, 1) := by decide +kernel
theorem dL_law_3528 : decode cL_law 3528 = .ok (.iadd, 1) := by decide +kernel
theorem dL_law_3529 : decode cL_law 3529 = .ok (.iaload, 1) := by decide +kernel
theorem dL_law_3530 : decode cL_law 3530 = .ok (.aload_n 0, 1) := by decide +kernel
theorem dL_law_3531 : decode cL_law 3531 = .ok (.iload 5, 2) := by decide +kernel
theorem dL_law_3533 : decode cL_law 3533 = .ok (.iconst 4, 1) := by decide +kernel
theorem dL_law_3534 : decode cL_law 3534 = .ok (.iadd, 1) := by decide +kernel
theorem dL_law_3535 : decode cL_law 3535 = .ok (.iaload, 1) := by decide +kernel
theorem dL_law_3536 : decode cL_law 3536 = .ok (.aload_n 3, 1) := by decide +kernel
theorem dL_law_3537 : decode cL_law 3537 = .ok (.invokestatic 369, 3) := by decide +kernel
theorem dL_law_3540 : decode cL_law 3540 = .ok (.istore 6, 2) := by decide +kernel
theorem dL_law_3542 : decode cL_law 3542 = .ok (.aload_n 2, 1) := by decide +kernel
theorem dL_law_3543 : decode cL_law 3543 = .ok (.aload_n 0, 1) := by decide +kernel
theorem dL_law_3544 : decode cL_law 3544 = .ok (.iload 5, 2) := by decide +kernel
theorem dL_law_3546 : decode cL_law 3546 = .ok (.iconst 1, 1) := by decide +kernel
theorem dL_law_3547 : decode cL_law 3547 = .ok (.iadd, 1) := by decide +kernel
theorem dL_law_3548 : decode cL_law 3548 = .ok (.iaload, 1) := by decide +kernel
theorem dL_law_3549 : decode cL_law 3549 = .ok (.aload_n 0, 1) := by decide +kernel
theorem dL_law_3550 : decode cL_law 3550 = .ok (.iload 5, 2) := by decide +kernel
theorem dL_law_3552 : decode cL_law 3552 = .ok (.iconst 2, 1) := by decide +kernel
theorem dL_law_3553 : decode cL_law 3553 = .ok (.iadd, 1) := by decide +kernel
theorem dL_law_3554 : decode cL_law 3554 = .ok (.iaload, 1) := by decide +kernel
theorem dL_law_3555 : decode cL_law 3555 = .ok (.aload_n 0, 1) := by decide +kernel
theorem dL_law_3556 : decode cL_law 3556 = .ok (.iload 5, 2) := by decide +kernel
theorem dL_law_3558 : decode cL_law 3558 = .ok (.iconst 3, 1) := by decide +kernel
theorem dL_law_3559 : decode cL_law 3559 = .ok (.iadd, 1) := by decide +kernel
theorem dL_law_3560 : decode cL_law 3560 = .ok (.iaload, 1) := by decide +kernel
theorem dL_law_3561 : decode cL_law 3561 = .ok (.aload_n 0, 1) := by decide +kernel
theorem dL_law_3562 : decode cL_law 3562 = .ok (.iload 5, 2) := by decide +kernel
theorem dL_law_3564 : decode cL_law 3564 = .ok (.iconst 4, 1) := by decide +kernel
theorem dL_law_3565 : decode cL_law 3565 = .ok (.iadd, 1) := by decide +kernel
theorem dL_law_3566 : decode cL_law 3566 = .ok (.iaload, 1) := by decide +kernel
theorem dL_law_3567 : decode cL_law 3567 = .ok (.invokevirtual 371, 3) := by decide +kernel
theorem dL_law_3570 : decode cL_law 3570 = .ok (.lstore 7, 2) := by decide +kernel
theorem dL_law_3572 : decode cL_law 3572 = .ok (.aload_n 2, 1) := by decide +kernel
theorem dL_law_3573 : decode cL_law 3573 = .ok (.invokevirtual 206, 3) := by decide +kernel
theorem dL_law_3576 : decode cL_law 3576 = .ok (.iload 6, 2) := by decide +kernel
theorem dL_law_3578 : decode cL_law 3578 = .ok (.if_icmp .eq 5, 3) := by decide +kernel
theorem dL_law_3581 : decode cL_law 3581 = .ok (.iconst 0, 1) := by decide +kernel
theorem dL_law_3582 : decode cL_law 3582 = .ok (.ireturn, 1) := by decide +kernel
theorem dL_law_3583 : decode cL_law 3583 = .ok (.iload 6, 2) := by decide +kernel
theorem dL_law_3585 : decode cL_law 3585 = .ok (.ifCond .ne 14, 3) := by decide +kernel
theorem dL_law_3588 : decode cL_law 3588 = .ok (.aload_n 3, 1) := by decide +kernel
theorem dL_law_3589 : decode cL_law 3589 = .ok (.iconst 0, 1) := by decide +kernel
theorem dL_law_3590 : decode cL_law 3590 = .ok (.laload, 1) := by decide +kernel
theorem dL_law_3591 : decode cL_law 3591 = .ok (.lload 7, 2) := by decide +kernel
theorem dL_law_3593 : decode cL_law 3593 = .ok (.lcmp, 1) := by decide +kernel
theorem dL_law_3594 : decode cL_law 3594 = .ok (.ifCond .eq 5, 3) := by decide +kernel
theorem dL_law_3597 : decode cL_law 3597 = .ok (.iconst 0, 1) := by decide +kernel
theorem dL_law_3598 : decode cL_law 3598 = .ok (.ireturn, 1) := by decide +kernel
theorem dL_law_3599 : decode cL_law 3599 = .ok (.goto 758, 3) := by decide +kernel
theorem dL_law_3602 : decode cL_law 3602 = .ok (.aload_n 1, 1) := by decide +kernel
theorem dL_law_3603 : decode cL_law 3603 = .ok (.aload_n 0, 1) := by decide +kernel
theorem dL_law_3604 : decode cL_law 3604 = .ok (.iload 5, 2) := by decide +kernel
theorem dL_law_3606 : decode cL_law 3606 = .ok (.iconst 1, 1) := by decide +kernel
theorem dL_law_3607 : decode cL_law 3607 = .ok (.iadd, 1) := by decide +kernel
theorem dL_law_3608 : decode cL_law 3608 = .ok (.iaload, 1) := by decide +kernel
theorem dL_law_3609 : decode cL_law 3609 = .ok (.aload_n 0, 1) := by decide +kernel
theorem dL_law_3610 : decode cL_law 3610 = .ok (.iload 5, 2) := by decide +kernel
theorem dL_law_3612 : decode cL_law 3612 = .ok (.iconst 2, 1) := by decide +kernel
theorem dL_law_3613 : decode cL_law 3613 = .ok (.iadd, 1) := by decide +kernel
theorem dL_law_3614 : decode cL_law 3614 = .ok (.iaload, 1) := by decide +kernel
theorem dL_law_3615 : decode cL_law 3615 = .ok (.aload_n 0, 1) := by decide +kernel
theorem dL_law_3616 : decode cL_law 3616 = .ok (.iload 5, 2) := by decide +kernel
theorem dL_law_3618 : decode cL_law 3618 = .ok (.iconst 3, 1) := by decide +kernel
theorem dL_law_3619 : decode cL_law 3619 = .ok (.iadd, 1) := by decide +kernel
theorem dL_law_3620 : decode cL_law 3620 = .ok (.iaload, 1) := by decide +kernel
theorem dL_law_3621 : decode cL_law 3621 = .ok (.aload_n 3, 1) := by decide +kernel
theorem dL_law_3622 : decode cL_law 3622 = .ok (.invokestatic 372, 3) := by decide +kernel
theorem dL_law_3625 : decode cL_law 3625 = .ok (.istore 6, 2) := by decide +kernel
theorem dL_law_3627 : decode cL_law 3627 = .ok (.aload_n 2, 1) := by decide +kernel
theorem dL_law_3628 : decode cL_law 3628 = .ok (.aload_n 0, 1) := by decide +kernel
theorem dL_law_3629 : decode cL_law 3629 = .ok (.iload 5, 2) := by decide +kernel
theorem dL_law_3631 : decode cL_law 3631 = .ok (.iconst 1, 1) := by decide +kernel
theorem dL_law_3632 : decode cL_law 3632 = .ok (.iadd, 1) := by decide +kernel
theorem dL_law_3633 : decode cL_law 3633 = .ok (.iaload, 1) := by decide +kernel
theorem dL_law_3634 : decode cL_law 3634 = .ok (.aload_n 0, 1) := by decide +kernel
theorem dL_law_3635 : decode cL_law 3635 = .ok (.iload 5, 2) := by decide +kernel
theorem dL_law_3637 : decode cL_law 3637 = .ok (.iconst 2, 1) := by decide +kernel
theorem dL_law_3638 : decode cL_law 3638 = .ok (.iadd, 1) := by decide +kernel
theorem dL_law_3639 : decode cL_law 3639 = .ok (.iaload, 1) := by decide +kernel
theorem dL_law_3640 : decode cL_law 3640 = .ok (.aload_n 0, 1) := by decide +kernel
theorem dL_law_3641 : decode cL_law 3641 = .ok (.iload 5, 2) := by decide +kernel
theorem dL_law_3643 : decode cL_law 3643 = .ok (.iconst 3, 1) := by decide +kernel
theorem dL_law_3644 : decode cL_law 3644 = .ok (.iadd, 1) := by decide +kernel
theorem dL_law_3645 : decode cL_law 3645 = .ok (.iaload, 1) := by decide +kernel
theorem dL_law_3646 : decode cL_law 3646 = .ok (.invokevirtual 374, 3) := by decide +kernel
theorem dL_law_3649 : decode cL_law 3649 = .ok (.istore 7, 2) := by decide +kernel
theorem dL_law_3651 : decode cL_law 3651 = .ok (.aload_n 2, 1) := by decide +kernel
theorem dL_law_3652 : decode cL_law 3652 = .ok (.invokevirtual 206, 3) := by decide +kernel
theorem dL_law_3655 : decode cL_law 3655 = .ok (.iload 6, 2) := by decide +kernel
theorem dL_law_3657 : decode cL_law 3657 = .ok (.if_icmp .eq 5, 3) := by decide +kernel
theorem dL_law_3660 : decode cL_law 3660 = .ok (.iconst 0, 1) := by decide +kernel
theorem dL_law_3661 : decode cL_law 3661 = .ok (.ireturn, 1) := by decide +kernel
theorem dL_law_3662 : decode cL_law 3662 = .ok (.iload 6, 2) := by decide +kernel
theorem dL_law_3664 : decode cL_law 3664 = .ok (.ifCond .ne 15, 3) := by decide +kernel
theorem dL_law_3667 : decode cL_law 3667 = .ok (.aload_n 3, 1) := by decide +kernel
theorem dL_law_3668 : decode cL_law 3668 = .ok (.iconst 0, 1) := by decide +kernel
theorem dL_law_3669 : decode cL_law 3669 = .ok (.laload, 1) := by decide +kernel
theorem dL_law_3670 : decode cL_law 3670 = .ok (.iload 7, 2) := by decide +kernel
theorem dL_law_3672 : decode cL_law 3672 = .ok (.i2l, 1) := by decide +kernel
theorem dL_law_3673 : decode cL_law 3673 = .ok (.lcmp, 1) := by decide +kernel
theorem dL_law_3674 : decode cL_law 3674 = .ok (.ifCond .eq 5, 3) := by decide +kernel
theorem dL_law_3677 : decode cL_law 3677 = .ok (.iconst 0, 1) := by decide +kernel
theorem dL_law_3678 : decode cL_law 3678 = .ok (.ireturn, 1) := by decide +kernel
theorem dL_law_3679 : decode cL_law 3679 = .ok (.goto 678, 3) := by decide +kernel
theorem dL_law_3682 : decode cL_law 3682 = .ok (.aload_n 1, 1) := by decide +kernel
theorem dL_law_3683 : decode cL_law 3683 = .ok (.aload_n 0, 1) := by decide +kernel
theorem dL_law_3684 : decode cL_law 3684 = .ok (.iload 5, 2) := by decide +kernel
theorem dL_law_3686 : decode cL_law 3686 = .ok (.iconst 1, 1) := by decide +kernel
theorem dL_law_3687 : decode cL_law 3687 = .ok (.iadd, 1) := by decide +kernel
theorem dL_law_3688 : decode cL_law 3688 = .ok (.iaload, 1) := by decide +kernel
theorem dL_law_3689 : decode cL_law 3689 = .ok (.aload_n 3, 1) := by decide +kernel
theorem dL_law_3690 : decode cL_law 3690 = .ok (.invokestatic 375, 3) := by decide +kernel
theorem dL_law_3693 : decode cL_law 3693 = .ok (.istore 6, 2) := by decide +kernel
theorem dL_law_3695 : decode cL_law 3695 = .ok (.aload_n 2, 1) := by decide +kernel
theorem dL_law_3696 : decode cL_law 3696 = .ok (.aload_n 0, 1) := by decide +kernel
theorem dL_law_3697 : decode cL_law 3697 = .ok (.iload 5, 2) := by decide +kernel
theorem dL_law_3699 : decode cL_law 3699 = .ok (.iconst 1, 1) := by decide +kernel
theorem dL_law_3700 : decode cL_law 3700 = .ok (.iadd, 1) := by decide +kernel
theorem dL_law_3701 : decode cL_law 3701 = .ok (.iaload, 1) := by decide +kernel
theorem dL_law_3702 : decode cL_law 3702 = .ok (.invokevirtual 377, 3) := by decide +kernel
theorem dL_law_3705 : decode cL_law 3705 = .ok (.istore 7, 2) := by decide +kernel
theorem dL_law_3707 : decode cL_law 3707 = .ok (.aload_n 2, 1) := by decide +kernel
theorem dL_law_3708 : decode cL_law 3708 = .ok (.invokevirtual 206, 3) := by decide +kernel
theorem dL_law_3711 : decode cL_law 3711 = .ok (.iload 6, 2) := by decide +kernel
theorem dL_law_3713 : decode cL_law 3713 = .ok (.if_icmp .eq 5, 3) := by decide +kernel
theorem dL_law_3716 : decode cL_law 3716 = .ok (.iconst 0, 1) := by decide +kernel
theorem dL_law_3717 : decode cL_law 3717 = .ok (.ireturn, 1) := by decide +kernel
theorem dL_law_3718 : decode cL_law 3718 = .ok (.iload 6, 2) := by decide +kernel
theorem dL_law_3720 : decode cL_law 3720 = .ok (.ifCond .ne 15, 3) := by decide +kernel
theorem dL_law_3723 : decode cL_law 3723 = .ok (.aload_n 3, 1) := by decide +kernel
theorem dL_law_3724 : decode cL_law 3724 = .ok (.iconst 0, 1) := by decide +kernel
theorem dL_law_3725 : decode cL_law 3725 = .ok (.laload, 1) := by decide +kernel
theorem dL_law_3726 : decode cL_law 3726 = .ok (.iload 7, 2) := by decide +kernel
theorem dL_law_3728 : decode cL_law 3728 = .ok (.i2l, 1) := by decide +kernel
theorem dL_law_3729 : decode cL_law 3729 = .ok (.lcmp, 1) := by decide +kernel
theorem dL_law_3730 : decode cL_law 3730 = .ok (.ifCond .eq 5, 3) := by decide +kernel
theorem dL_law_3733 : decode cL_law 3733 = .ok (.iconst 0, 1) := by decide +kernel
theorem dL_law_3734 : decode cL_law 3734 = .ok (.ireturn, 1) := by decide +kernel
theorem dL_law_3735 : decode cL_law 3735 = .ok (.goto 622, 3) := by decide +kernel
theorem dL_law_3738 : decode cL_law 3738 = .ok (.aload_n 1, 1) := by decide +kernel
theorem dL_law_3739 : decode cL_law 3739 = .ok (.aload_n 0, 1) := by decide +kernel
theorem dL_law_3740 : decode cL_law 3740 = .ok (.iload 5, 2) := by decide +kernel
theorem dL_law_3742 : decode cL_law 3742 = .ok (.iconst 1, 1) := by decide +kernel
theorem dL_law_3743 : decode cL_law 3743 = .ok (.iadd, 1) := by decide +kernel
theorem dL_law_3744 : decode cL_law 3744 = .ok (.iaload, 1) := by decide +kernel
theorem dL_law_3745 : decode cL_law 3745 = .ok (.aload_n 0, 1) := by decide +kernel
theorem dL_law_3746 : decode cL_law 3746 = .ok (.iload 5, 2) := by decide +kernel
theorem dL_law_3748 : decode cL_law 3748 = .ok (.iconst 2, 1) := by decide +kernel
theorem dL_law_3749 : decode cL_law 3749 = .ok (.iadd, 1) := by decide +kernel
theorem dL_law_3750 : decode cL_law 3750 = .ok (.iaload, 1) := by decide +kernel
theorem dL_law_3751 : decode cL_law 3751 = .ok (.ifCond .eq 7, 3) := by decide +kernel
theorem dL_law_3754 : decode cL_law 3754 = .ok (.iconst 1, 1) := by decide +kernel
theorem dL_law_3755 : decode cL_law 3755 = .ok (.goto 4, 3) := by decide +kernel
theorem dL_law_3758 : decode cL_law 3758 = .ok (.iconst 0, 1) := by decide +kernel
theorem dL_law_3759 : decode cL_law 3759 = .ok (.aload_n 3, 1) := by decide +kernel
theorem dL_law_3760 : decode cL_law 3760 = .ok (.invokestatic 378, 3) := by decide +kernel
theorem dL_law_3763 : decode cL_law 3763 = .ok (.istore 6, 2) := by decide +kernel
theorem dL_law_3765 : decode cL_law 3765 = .ok (.aload_n 2, 1) := by decide +kernel
theorem dL_law_3766 : decode cL_law 3766 = .ok (.aload_n 0, 1) := by decide +kernel
theorem dL_law_3767 : decode cL_law 3767 = .ok (.iload 5, 2) := by decide +kernel
theorem dL_law_3769 : decode cL_law 3769 = .ok (.iconst 1, 1) := by decide +kernel
theorem dL_law_3770 : decode cL_law 3770 = .ok (.iadd, 1) := by decide +kernel
theorem dL_law_3771 : decode cL_law 3771 = .ok (.iaload, 1) := by decide +kernel
theorem dL_law_3772 : decode cL_law 3772 = .ok (.aload_n 0, 1) := by decide +kernel
theorem dL_law_3773 : decode cL_law 3773 = .ok (.iload 5, 2) := by decide +kernel
theorem dL_law_3775 : decode cL_law 3775 = .ok (.iconst 2, 1) := by decide +kernel
theorem dL_law_3776 : decode cL_law 3776 = .ok (.iadd, 1) := by decide +kernel
theorem dL_law_3777 : decode cL_law 3777 = .ok (.iaload, 1) := by decide +kernel
theorem dL_law_3778 : decode cL_law 3778 = .ok (.ifCond .eq 7, 3) := by decide +kernel
theorem dL_law_3781 : decode cL_law 3781 = .ok (.iconst 1, 1) := by decide +kernel
theorem dL_law_3782 : decode cL_law 3782 = .ok (.goto 4, 3) := by decide +kernel
theorem dL_law_3785 : decode cL_law 3785 = .ok (.iconst 0, 1) := by decide +kernel
theorem dL_law_3786 : decode cL_law 3786 = .ok (.invokevirtual 381, 3) := by decide +kernel
theorem dL_law_3789 : decode cL_law 3789 = .ok (.istore 7, 2) := by decide +kernel
theorem dL_law_3791 : decode cL_law 3791 = .ok (.aload_n 2, 1) := by decide +kernel
theorem dL_law_3792 : decode cL_law 3792 = .ok (.invokevirtual 206, 3) := by decide +kernel
theorem dL_law_3795 : decode cL_law 3795 = .ok (.iload 6, 2) := by decide +kernel
theorem dL_law_3797 : decode cL_law 3797 = .ok (.if_icmp .eq 5, 3) := by decide +kernel
theorem dL_law_3800 : decode cL_law 3800 = .ok (.iconst 0, 1) := by decide +kernel
theorem dL_law_3801 : decode cL_law 3801 = .ok (.ireturn, 1) := by decide +kernel
theorem dL_law_3802 : decode cL_law 3802 = .ok (.iload 6, 2) := by decide +kernel
theorem dL_law_3804 : decode cL_law 3804 = .ok (.ifCond .ne 22, 3) := by decide +kernel
theorem dL_law_3807 : decode cL_law 3807 = .ok (.aload_n 3, 1) := by decide +kernel
theorem dL_law_3808 : decode cL_law 3808 = .ok (.iconst 0, 1) := by decide +kernel
theorem dL_law_3809 : decode cL_law 3809 = .ok (.laload, 1) := by decide +kernel
theorem dL_law_3810 : decode cL_law 3810 = .ok (.iload 7, 2) := by decide +kernel
theorem dL_law_3812 : decode cL_law 3812 = .ok (.ifCond .eq 7, 3) := by decide +kernel
theorem dL_law_3815 : decode cL_law 3815 = .ok (.lconst 1, 1) := by decide +kernel
theorem dL_law_3816 : decode cL_law 3816 = .ok (.goto 4, 3) := by decide +kernel
theorem dL_law_3819 : decode cL_law 3819 = .ok (.lconst 0, 1) := by decide +kernel
theorem dL_law_3820 : decode cL_law 3820 = .ok (.lcmp, 1) := by decide +kernel
theorem dL_law_3821 : decode cL_law 3821 = .ok (.ifCond .eq 5, 3) := by decide +kernel
theorem dL_law_3824 : decode cL_law 3824 = .ok (.iconst 0, 1) := by decide +kernel
theorem dL_law_3825 : decode cL_law 3825 = .ok (.ireturn, 1) := by decide +kernel
theorem dL_law_3826 : decode cL_law 3826 = .ok (.goto 531, 3) := by decide +kernel
theorem dL_law_3829 : decode cL_law 3829 = .ok (.aload_n 1, 1) := by decide +kernel
theorem dL_law_3830 : decode cL_law 3830 = .ok (.aload_n 0, 1) := by decide +kernel
theorem dL_law_3831 : decode cL_law 3831 = .ok (.iload 5, 2) := by decide +kernel
theorem dL_law_3833 : decode cL_law 3833 = .ok (.iconst 1, 1) := by decide +kernel
theorem dL_law_3834 : decode cL_law 3834 = .ok (.iadd, 1) := by decide +kernel
theorem dL_law_3835 : decode cL_law 3835 = .ok (.iaload, 1) := by decide +kernel
theorem dL_law_3836 : decode cL_law 3836 = .ok (.aload_n 0, 1) := by decide +kernel
theorem dL_law_3837 : decode cL_law 3837 = .ok (.iload 5, 2) := by decide +kernel
theorem dL_law_3839 : decode cL_law 3839 = .ok (.iconst 2, 1) := by decide +kernel
theorem dL_law_3840 : decode cL_law 3840 = .ok (.iadd, 1) := by decide +kernel
theorem dL_law_3841 : decode cL_law 3841 = .ok (.iaload, 1) := by decide +kernel
theorem dL_law_3842 : decode cL_law 3842 = .ok (.aload_n 3, 1) := by decide +kernel
theorem dL_law_3843 : decode cL_law 3843 = .ok (.invokestatic 382, 3) := by decide +kernel
theorem dL_law_3846 : decode cL_law 3846 = .ok (.istore 6, 2) := by decide +kernel
theorem dL_law_3848 : decode cL_law 3848 = .ok (.aload_n 2, 1) := by decide +kernel
theorem dL_law_3849 : decode cL_law 3849 = .ok (.aload_n 0, 1) := by decide +kernel
theorem dL_law_3850 : decode cL_law 3850 = .ok (.iload 5, 2) := by decide +kernel
theorem dL_law_3852 : decode cL_law 3852 = .ok (.iconst 1, 1) := by decide +kernel
theorem dL_law_3853 : decode cL_law 3853 = .ok (.iadd, 1) := by decide +kernel
theorem dL_law_3854 : decode cL_law 3854 = .ok (.iaload, 1) := by decide +kernel
theorem dL_law_3855 : decode cL_law 3855 = .ok (.aload_n 0, 1) := by decide +kernel
theorem dL_law_3856 : decode cL_law 3856 = .ok (.iload 5, 2) := by decide +kernel
theorem dL_law_3858 : decode cL_law 3858 = .ok (.iconst 2, 1) := by decide +kernel
theorem dL_law_3859 : decode cL_law 3859 = .ok (.iadd, 1) := by decide +kernel
theorem dL_law_3860 : decode cL_law 3860 = .ok (.iaload, 1) := by decide +kernel
theorem dL_law_3861 : decode cL_law 3861 = .ok (.invokevirtual 384, 3) := by decide +kernel
theorem dL_law_3864 : decode cL_law 3864 = .ok (.istore 7, 2) := by decide +kernel
theorem dL_law_3866 : decode cL_law 3866 = .ok (.aload_n 2, 1) := by decide +kernel
theorem dL_law_3867 : decode cL_law 3867 = .ok (.invokevirtual 206, 3) := by decide +kernel
theorem dL_law_3870 : decode cL_law 3870 = .ok (.iload 6, 2) := by decide +kernel
theorem dL_law_3872 : decode cL_law 3872 = .ok (.if_icmp .eq 5, 3) := by decide +kernel
theorem dL_law_3875 : decode cL_law 3875 = .ok (.iconst 0, 1) := by decide +kernel
theorem dL_law_3876 : decode cL_law 3876 = .ok (.ireturn, 1) := by decide +kernel
theorem dL_law_3877 : decode cL_law 3877 = .ok (.iload 6, 2) := by decide +kernel
theorem dL_law_3879 : decode cL_law 3879 = .ok (.ifCond .ne 15, 3) := by decide +kernel
theorem dL_law_3882 : decode cL_law 3882 = .ok (.aload_n 3, 1) := by decide +kernel
theorem dL_law_3883 : decode cL_law 3883 = .ok (.iconst 0, 1) := by decide +kernel
theorem dL_law_3884 : decode cL_law 3884 = .ok (.laload, 1) := by decide +kernel
theorem dL_law_3885 : decode cL_law 3885 = .ok (.iload 7, 2) := by decide +kernel
theorem dL_law_3887 : decode cL_law 3887 = .ok (.i2l, 1) := by decide +kernel
theorem dL_law_3888 : decode cL_law 3888 = .ok (.lcmp, 1) := by decide +kernel
theorem dL_law_3889 : decode cL_law 3889 = .ok (.ifCond .eq 5, 3) := by decide +kernel
theorem dL_law_3892 : decode cL_law 3892 = .ok (.iconst 0, 1) := by decide +kernel
theorem dL_law_3893 : decode cL_law 3893 = .ok (.ireturn, 1) := by decide +kernel
theorem dL_law_3894 : decode cL_law 3894 = .ok (.goto 463, 3) := by decide +kernel
theorem dL_law_3897 : decode cL_law 3897 = .ok (.aload_n 1, 1) := by decide +kernel
theorem dL_law_3898 : decode cL_law 3898 = .ok (.aload_n 0, 1) := by decide +kernel
theorem dL_law_3899 : decode cL_law 3899 = .ok (.iload 5, 2) := by decide +kernel
theorem dL_law_3901 : decode cL_law 3901 = .ok (.iconst 1, 1) := by decide +kernel
theorem dL_law_3902 : decode cL_law 3902 = .ok (.iadd, 1) := by decide +kernel
theorem dL_law_3903 : decode cL_law 3903 = .ok (.iaload, 1) := by decide +kernel
theorem dL_law_3904 : decode cL_law 3904 = .ok (.aload_n 0, 1) := by decide +kernel
theorem dL_law_3905 : decode cL_law 3905 = .ok (.iload 5, 2) := by decide +kernel
theorem dL_law_3907 : decode cL_law 3907 = .ok (.iconst 2, 1) := by decide +kernel
theorem dL_law_3908 : decode cL_law 3908 = .ok (.iadd, 1) := by decide +kernel
theorem dL_law_3909 : decode cL_law 3909 = .ok (.iaload, 1) := by decide +kernel
theorem dL_law_3910 : decode cL_law 3910 = .ok (.aload_n 3, 1) := by decide +kernel
theorem dL_law_3911 : decode cL_law 3911 = .ok (.invokestatic 385, 3) := by decide +kernel
theorem dL_law_3914 : decode cL_law 3914 = .ok (.istore 6, 2) := by decide +kernel
theorem dL_law_3916 : decode cL_law 3916 = .ok (.aload_n 2, 1) := by decide +kernel
theorem dL_law_3917 : decode cL_law 3917 = .ok (.aload_n 0, 1) := by decide +kernel
theorem dL_law_3918 : decode cL_law 3918 = .ok (.iload 5, 2) := by decide +kernel
theorem dL_law_3920 : decode cL_law 3920 = .ok (.iconst 1, 1) := by decide +kernel
theorem dL_law_3921 : decode cL_law 3921 = .ok (.iadd, 1) := by decide +kernel
theorem dL_law_3922 : decode cL_law 3922 = .ok (.iaload, 1) := by decide +kernel
theorem dL_law_3923 : decode cL_law 3923 = .ok (.aload_n 0, 1) := by decide +kernel
theorem dL_law_3924 : decode cL_law 3924 = .ok (.iload 5, 2) := by decide +kernel
theorem dL_law_3926 : decode cL_law 3926 = .ok (.iconst 2, 1) := by decide +kernel
theorem dL_law_3927 : decode cL_law 3927 = .ok (.iadd, 1) := by decide +kernel
theorem dL_law_3928 : decode cL_law 3928 = .ok (.iaload, 1) := by decide +kernel
theorem dL_law_3929 : decode cL_law 3929 = .ok (.invokevirtual 387, 3) := by decide +kernel
theorem dL_law_3932 : decode cL_law 3932 = .ok (.istore 7, 2) := by decide +kernel
theorem dL_law_3934 : decode cL_law 3934 = .ok (.aload_n 2, 1) := by decide +kernel
theorem dL_law_3935 : decode cL_law 3935 = .ok (.invokevirtual 206, 3) := by decide +kernel
theorem dL_law_3938 : decode cL_law 3938 = .ok (.iload 6, 2) := by decide +kernel
theorem dL_law_3940 : decode cL_law 3940 = .ok (.if_icmp .eq 5, 3) := by decide +kernel
theorem dL_law_3943 : decode cL_law 3943 = .ok (.iconst 0, 1) := by decide +kernel
theorem dL_law_3944 : decode cL_law 3944 = .ok (.ireturn, 1) := by decide +kernel
theorem dL_law_3945 : decode cL_law 3945 = .ok (.iload 6, 2) := by decide +kernel
theorem dL_law_3947 : decode cL_law 3947 = .ok (.ifCond .ne 15, 3) := by decide +kernel
theorem dL_law_3950 : decode cL_law 3950 = .ok (.aload_n 3, 1) := by decide +kernel
theorem dL_law_3951 : decode cL_law 3951 = .ok (.iconst 0, 1) := by decide +kernel
theorem dL_law_3952 : decode cL_law 3952 = .ok (.laload, 1) := by decide +kernel
theorem dL_law_3953 : decode cL_law 3953 = .ok (.iload 7, 2) := by decide +kernel
theorem dL_law_3955 : decode cL_law 3955 = .ok (.i2l, 1) := by decide +kernel
theorem dL_law_3956 : decode cL_law 3956 = .ok (.lcmp, 1) := by decide +kernel
theorem dL_law_3957 : decode cL_law 3957 = .ok (.ifCond .eq 5, 3) := by decide +kernel
theorem dL_law_3960 : decode cL_law 3960 = .ok (.iconst 0, 1) := by decide +kernel
theorem dL_law_3961 : decode cL_law 3961 = .ok (.ireturn, 1) := by decide +kernel
theorem dL_law_3962 : decode cL_law 3962 = .ok (.goto 395, 3) := by decide +kernel
theorem dL_law_3965 : decode cL_law 3965 = .ok (.aload_n 1, 1) := by decide +kernel
theorem dL_law_3966 : decode cL_law 3966 = .ok (.aload_n 0, 1) := by decide +kernel
theorem dL_law_3967 : decode cL_law 3967 = .ok (.iload 5, 2) := by decide +kernel
theorem dL_law_3969 : decode cL_law 3969 = .ok (.iconst 1, 1) := by decide +kernel
theorem dL_law_3970 : decode cL_law 3970 = .ok (.iadd, 1) := by decide +kernel
theorem dL_law_3971 : decode cL_law 3971 = .ok (.iaload, 1) := by decide +kernel
theorem dL_law_3972 : decode cL_law 3972 = .ok (.aload_n 0, 1) := by decide +kernel
theorem dL_law_3973 : decode cL_law 3973 = .ok (.iload 5, 2) := by decide +kernel
theorem dL_law_3975 : decode cL_law 3975 = .ok (.iconst 2, 1) := by decide +kernel
theorem dL_law_3976 : decode cL_law 3976 = .ok (.iadd, 1) := by decide +kernel
theorem dL_law_3977 : decode cL_law 3977 = .ok (.iaload, 1) := by decide +kernel
theorem dL_law_3978 : decode cL_law 3978 = .ok (.aload_n 0, 1) := by decide +kernel
theorem dL_law_3979 : decode cL_law 3979 = .ok (.iload 5, 2) := by decide +kernel
theorem dL_law_3981 : decode cL_law 3981 = .ok (.iconst 3, 1) := by decide +kernel
theorem dL_law_3982 : decode cL_law 3982 = .ok (.iadd, 1) := by decide +kernel
theorem dL_law_3983 : decode cL_law 3983 = .ok (.iaload, 1) := by decide +kernel
theorem dL_law_3984 : decode cL_law 3984 = .ok (.aload_n 3, 1) := by decide +kernel
theorem dL_law_3985 : decode cL_law 3985 = .ok (.invokestatic 388, 3) := by decide +kernel
theorem dL_law_3988 : decode cL_law 3988 = .ok (.istore 6, 2) := by decide +kernel
theorem dL_law_3990 : decode cL_law 3990 = .ok (.aload_n 2, 1) := by decide +kernel
theorem dL_law_3991 : decode cL_law 3991 = .ok (.aload_n 0, 1) := by decide +kernel
theorem dL_law_3992 : decode cL_law 3992 = .ok (.iload 5, 2) := by decide +kernel
theorem dL_law_3994 : decode cL_law 3994 = .ok (.iconst 1, 1) := by decide +kernel
theorem dL_law_3995 : decode cL_law 3995 = .ok (.iadd, 1) := by decide +kernel
theorem dL_law_3996 : decode cL_law 3996 = .ok (.iaload, 1) := by decide +kernel
theorem dL_law_3997 : decode cL_law 3997 = .ok (.aload_n 0, 1) := by decide +kernel
theorem dL_law_3998 : decode cL_law 3998 = .ok (.iload 5, 2) := by decide +kernel
theorem dL_law_4000 : decode cL_law 4000 = .ok (.iconst 2, 1) := by decide +kernel
theorem dL_law_4001 : decode cL_law 4001 = .ok (.iadd, 1) := by decide +kernel
theorem dL_law_4002 : decode cL_law 4002 = .ok (.iaload, 1) := by decide +kernel
theorem dL_law_4003 : decode cL_law 4003 = .ok (.aload_n 0, 1) := by decide +kernel
theorem dL_law_4004 : decode cL_law 4004 = .ok (.iload 5, 2) := by decide +kernel
theorem dL_law_4006 : decode cL_law 4006 = .ok (.iconst 3, 1) := by decide +kernel
theorem dL_law_4007 : decode cL_law 4007 = .ok (.iadd, 1) := by decide +kernel
theorem dL_law_4008 : decode cL_law 4008 = .ok (.iaload, 1) := by decide +kernel
theorem dL_law_4009 : decode cL_law 4009 = .ok (.invokevirtual 390, 3) := by decide +kernel
theorem dL_law_4012 : decode cL_law 4012 = .ok (.istore 7, 2) := by decide +kernel
theorem dL_law_4014 : decode cL_law 4014 = .ok (.aload_n 2, 1) := by decide +kernel
theorem dL_law_4015 : decode cL_law 4015 = .ok (.invokevirtual 206, 3) := by decide +kernel
theorem dL_law_4018 : decode cL_law 4018 = .ok (.iload 6, 2) := by decide +kernel
theorem dL_law_4020 : decode cL_law 4020 = .ok (.if_icmp .eq 5, 3) := by decide +kernel
theorem dL_law_4023 : decode cL_law 4023 = .ok (.iconst 0, 1) := by decide +kernel
theorem dL_law_4024 : decode cL_law 4024 = .ok (.ireturn, 1) := by decide +kernel
theorem dL_law_4025 : decode cL_law 4025 = .ok (.iload 6, 2) := by decide +kernel
theorem dL_law_4027 : decode cL_law 4027 = .ok (.ifCond .ne 15, 3) := by decide +kernel
theorem dL_law_4030 : decode cL_law 4030 = .ok (.aload_n 3, 1) := by decide +kernel
theorem dL_law_4031 : decode cL_law 4031 = .ok (.iconst 0, 1) := by decide +kernel
theorem dL_law_4032 : decode cL_law 4032 = .ok (.laload, 1) := by decide +kernel
theorem dL_law_4033 : decode cL_law 4033 = .ok (.iload 7, 2) := by decide +kernel
theorem dL_law_4035 : decode cL_law 4035 = .ok (.i2l, 1) := by decide +kernel
theorem dL_law_4036 : decode cL_law 4036 = .ok (.lcmp, 1) := by decide +kernel
theorem dL_law_4037 : decode cL_law 4037 = .ok (.ifCond .eq 5, 3) := by decide +kernel
theorem dL_law_4040 : decode cL_law 4040 = .ok (.iconst 0, 1) := by decide +kernel
theorem dL_law_4041 : decode cL_law 4041 = .ok (.ireturn, 1) := by decide +kernel
theorem dL_law_4042 : decode cL_law 4042 = .ok (.goto 315, 3) := by decide +kernel
theorem dL_law_4045 : decode cL_law 4045 = .ok (.aload_n 1, 1) := by decide +kernel
theorem dL_law_4046 : decode cL_law 4046 = .ok (.aload_n 0, 1) := by decide +kernel
theorem dL_law_4047 : decode cL_law 4047 = .ok (.iload 5, 2) := by decide +kernel
theorem dL_law_4049 : decode cL_law 4049 = .ok (.iconst 1, 1) := by decide +kernel
theorem dL_law_4050 : decode cL_law 4050 = .ok (.iadd, 1) := by decide +kernel
theorem dL_law_4051 : decode cL_law 4051 = .ok (.iaload, 1) := by decide +kernel
theorem dL_law_4052 : decode cL_law 4052 = .ok (.aload_n 0, 1) := by decide +kernel
theorem dL_law_4053 : decode cL_law 4053 = .ok (.iload 5, 2) := by decide +kernel
theorem dL_law_4055 : decode cL_law 4055 = .ok (.iconst 2, 1) := by decide +kernel
theorem dL_law_4056 : decode cL_law 4056 = .ok (.iadd, 1) := by decide +kernel
theorem dL_law_4057 : decode cL_law 4057 = .ok (.iaload, 1) := by decide +kernel
theorem dL_law_4058 : decode cL_law 4058 = .ok (.aload_n 0, 1) := by decide +kernel
theorem dL_law_4059 : decode cL_law 4059 = .ok (.iload 5, 2) := by decide +kernel
theorem dL_law_4061 : decode cL_law 4061 = .ok (.iconst 3, 1) := by decide +kernel
theorem dL_law_4062 : decode cL_law 4062 = .ok (.iadd, 1) := by decide +kernel
theorem dL_law_4063 : decode cL_law 4063 = .ok (.iaload, 1) := by decide +kernel
theorem dL_law_4064 : decode cL_law 4064 = .ok (.aload_n 3, 1) := by decide +kernel
theorem dL_law_4065 : decode cL_law 4065 = .ok (.invokestatic 391, 3) := by decide +kernel
theorem dL_law_4068 : decode cL_law 4068 = .ok (.istore 6, 2) := by decide +kernel
theorem dL_law_4070 : decode cL_law 4070 = .ok (.aload_n 2, 1) := by decide +kernel
theorem dL_law_4071 : decode cL_law 4071 = .ok (.aload_n 0, 1) := by decide +kernel
theorem dL_law_4072 : decode cL_law 4072 = .ok (.iload 5, 2) := by decide +kernel
theorem dL_law_4074 : decode cL_law 4074 = .ok (.iconst 1, 1) := by decide +kernel
theorem dL_law_4075 : decode cL_law 4075 = .ok (.iadd, 1) := by decide +kernel
theorem dL_law_4076 : decode cL_law 4076 = .ok (.iaload, 1) := by decide +kernel
theorem dL_law_4077 : decode cL_law 4077 = .ok (.aload_n 0, 1) := by decide +kernel
theorem dL_law_4078 : decode cL_law 4078 = .ok (.iload 5, 2) := by decide +kernel
theorem dL_law_4080 : decode cL_law 4080 = .ok (.iconst 2, 1) := by decide +kernel
theorem dL_law_4081 : decode cL_law 4081 = .ok (.iadd, 1) := by decide +kernel
theorem dL_law_4082 : decode cL_law 4082 = .ok (.iaload, 1) := by decide +kernel
theorem dL_law_4083 : decode cL_law 4083 = .ok (.aload_n 0, 1) := by decide +kernel
theorem dL_law_4084 : decode cL_law 4084 = .ok (.iload 5, 2) := by decide +kernel
theorem dL_law_4086 : decode cL_law 4086 = .ok (.iconst 3, 1) := by decide +kernel
theorem dL_law_4087 : decode cL_law 4087 = .ok (.iadd, 1) := by decide +kernel
theorem dL_law_4088 : decode cL_law 4088 = .ok (.iaload, 1) := by decide +kernel
theorem dL_law_4089 : decode cL_law 4089 = .ok (.invokevirtual 393, 3) := by decide +kernel
theorem dL_law_4092 : decode cL_law 4092 = .ok (.istore 7, 2) := by decide +kernel
theorem dL_law_4094 : decode cL_law 4094 = .ok (.aload_n 2, 1) := by decide +kernel
theorem dL_law_4095 : decode cL_law 4095 = .ok (.invokevirtual 206, 3) := by decide +kernel
theorem dL_law_4098 : decode cL_law 4098 = .ok (.iload 6, 2) := by decide +kernel
theorem dL_law_4100 : decode cL_law 4100 = .ok (.if_icmp .eq 5, 3) := by decide +kernel
theorem dL_law_4103 : decode cL_law 4103 = .ok (.iconst 0, 1) := by decide +kernel
theorem dL_law_4104 : decode cL_law 4104 = .ok (.ireturn, 1) := by decide +kernel
theorem dL_law_4105 : decode cL_law 4105 = .ok (.iload 6, 2) := by decide +kernel
theorem dL_law_4107 : decode cL_law 4107 = .ok (.ifCond .ne 15, 3) := by decide +kernel
theorem dL_law_4110 : decode cL_law 4110 = .ok (.aload_n 3, 1) := by decide +kernel
theorem dL_law_4111 : decode cL_law 4111 = .ok (.iconst 0, 1) := by decide +kernel
theorem dL_law_4112 : decode cL_law 4112 = .ok (.laload, 1) := by decide +kernel
theorem dL_law_4113 : decode cL_law 4113 = .ok (.iload 7, 2) := by decide +kernel
theorem dL_law_4115 : decode cL_law 4115 = .ok (.i2l, 1) := by decide +kernel
theorem dL_law_4116 : decode cL_law 4116 = .ok (.lcmp, 1) := by decide +kernel
theorem dL_law_4117 : decode cL_law 4117 = .ok (.ifCond .eq 5, 3) := by decide +kernel
theorem dL_law_4120 : decode cL_law 4120 = .ok (.iconst 0, 1) := by decide +kernel
theorem dL_law_4121 : decode cL_law 4121 = .ok (.ireturn, 1) := by decide +kernel
theorem dL_law_4122 : decode cL_law 4122 = .ok (.goto 235, 3) := by decide +kernel
theorem dL_law_4125 : decode cL_law 4125 = .ok (.aload_n 1, 1) := by decide +kernel
theorem dL_law_4126 : decode cL_law 4126 = .ok (.aload_n 0, 1) := by decide +kernel
theorem dL_law_4127 : decode cL_law 4127 = .ok (.iload 5, 2) := by decide +kernel
theorem dL_law_4129 : decode cL_law 4129 = .ok (.iconst 1, 1) := by decide +kernel
theorem dL_law_4130 : decode cL_law 4130 = .ok (.iadd, 1) := by decide +kernel
theorem dL_law_4131 : decode cL_law 4131 = .ok (.iaload, 1) := by decide +kernel
theorem dL_law_4132 : decode cL_law 4132 = .ok (.aload_n 3, 1) := by decide +kernel
theorem dL_law_4133 : decode cL_law 4133 = .ok (.invokestatic 394, 3) := by decide +kernel
theorem dL_law_4136 : decode cL_law 4136 = .ok (.istore 6, 2) := by decide +kernel
theorem dL_law_4138 : decode cL_law 4138 = .ok (.aload_n 2, 1) := by decide +kernel
theorem dL_law_4139 : decode cL_law 4139 = .ok (.aload_n 0, 1) := by decide +kernel
theorem dL_law_4140 : decode cL_law 4140 = .ok (.iload 5, 2) := by decide +kernel
theorem dL_law_4142 : decode cL_law 4142 = .ok (.iconst 1, 1) := by decide +kernel
theorem dL_law_4143 : decode cL_law 4143 = .ok (.iadd, 1) := by decide +kernel
theorem dL_law_4144 : decode cL_law 4144 = .ok (.iaload, 1) := by decide +kernel
theorem dL_law_4145 : decode cL_law 4145 = .ok (.invokevirtual 396, 3) := by decide +kernel
theorem dL_law_4148 : decode cL_law 4148 = .ok (.istore 7, 2) := by decide +kernel
theorem dL_law_4150 : decode cL_law 4150 = .ok (.aload_n 2, 1) := by decide +kernel
theorem dL_law_4151 : decode cL_law 4151 = .ok (.invokevirtual 206, 3) := by decide +kernel
theorem dL_law_4154 : decode cL_law 4154 = .ok (.iload 6, 2) := by decide +kernel
theorem dL_law_4156 : decode cL_law 4156 = .ok (.if_icmp .eq 5, 3) := by decide +kernel
theorem dL_law_4159 : decode cL_law 4159 = .ok (.iconst 0, 1) := by decide +kernel
theorem dL_law_4160 : decode cL_law 4160 = .ok (.ireturn, 1) := by decide +kernel
theorem dL_law_4161 : decode cL_law 4161 = .ok (.iload 6, 2) := by decide +kernel
theorem dL_law_4163 : decode cL_law 4163 = .ok (.ifCond .ne 22, 3) := by decide +kernel
theorem dL_law_4166 : decode cL_law 4166 = .ok (.aload_n 3, 1) := by decide +kernel
theorem dL_law_4167 : decode cL_law 4167 = .ok (.iconst 0, 1) := by decide +kernel
theorem dL_law_4168 : decode cL_law 4168 = .ok (.laload, 1) := by decide +kernel
theorem dL_law_4169 : decode cL_law 4169 = .ok (.iload 7, 2) := by decide +kernel
theorem dL_law_4171 : decode cL_law 4171 = .ok (.ifCond .eq 7, 3) := by decide +kernel
theorem dL_law_4174 : decode cL_law 4174 = .ok (.lconst 1, 1) := by decide +kernel
theorem dL_law_4175 : decode cL_law 4175 = .ok (.goto 4, 3) := by decide +kernel
theorem dL_law_4178 : decode cL_law 4178 = .ok (.lconst 0, 1) := by decide +kernel
theorem dL_law_4179 : decode cL_law 4179 = .ok (.lcmp, 1) := by decide +kernel
theorem dL_law_4180 : decode cL_law 4180 = .ok (.ifCond .eq 5, 3) := by decide +kernel
theorem dL_law_4183 : decode cL_law 4183 = .ok (.iconst 0, 1) := by decide +kernel
theorem dL_law_4184 : decode cL_law 4184 = .ok (.ireturn, 1) := by decide +kernel
theorem dL_law_4185 : decode cL_law 4185 = .ok (.goto 172, 3) := by decide +kernel
theorem dL_law_4188 : decode cL_law 4188 = .ok (.aload_n 1, 1) := by decide +kernel
theorem dL_law_4189 : decode cL_law 4189 = .ok (.aload_n 3, 1) := by decide +kernel
theorem dL_law_4190 : decode cL_law 4190 = .ok (.invokestatic 397, 3) := by decide +kernel
theorem dL_law_4193 : decode cL_law 4193 = .ok (.istore 6, 2) := by decide +kernel
theorem dL_law_4195 : decode cL_law 4195 = .ok (.aload_n 2, 1) := by decide +kernel
theorem dL_law_4196 : decode cL_law 4196 = .ok (.invokevirtual 399, 3) := by decide +kernel
theorem dL_law_4199 : decode cL_law 4199 = .ok (.istore 7, 2) := by decide +kernel
theorem dL_law_4201 : decode cL_law 4201 = .ok (.aload_n 2, 1) := by decide +kernel
theorem dL_law_4202 : decode cL_law 4202 = .ok (.invokevirtual 206, 3) := by decide +kernel
theorem dL_law_4205 : decode cL_law 4205 = .ok (.iload 6, 2) := by decide +kernel
theorem dL_law_4207 : decode cL_law 4207 = .ok (.if_icmp .eq 5, 3) := by decide +kernel
theorem dL_law_4210 : decode cL_law 4210 = .ok (.iconst 0, 1) := by decide +kernel
theorem dL_law_4211 : decode cL_law 4211 = .ok (.ireturn, 1) := by decide +kernel
theorem dL_law_4212 : decode cL_law 4212 = .ok (.iload 6, 2) := by decide +kernel
theorem dL_law_4214 : decode cL_law 4214 = .ok (.ifCond .ne 15, 3) := by decide +kernel
theorem dL_law_4217 : decode cL_law 4217 = .ok (.aload_n 3, 1) := by decide +kernel
theorem dL_law_4218 : decode cL_law 4218 = .ok (.iconst 0, 1) := by decide +kernel
theorem dL_law_4219 : decode cL_law 4219 = .ok (.laload, 1) := by decide +kernel
theorem dL_law_4220 : decode cL_law 4220 = .ok (.iload 7, 2) := by decide +kernel
theorem dL_law_4222 : decode cL_law 4222 = .ok (.i2l, 1) := by decide +kernel
theorem dL_law_4223 : decode cL_law 4223 = .ok (.lcmp, 1) := by decide +kernel
theorem dL_law_4224 : decode cL_law 4224 = .ok (.ifCond .eq 5, 3) := by decide +kernel
theorem dL_law_4227 : decode cL_law 4227 = .ok (.iconst 0, 1) := by decide +kernel
theorem dL_law_4228 : decode cL_law 4228 = .ok (.ireturn, 1) := by decide +kernel
theorem dL_law_4229 : decode cL_law 4229 = .ok (.goto 128, 3) := by decide +kernel
theorem dL_law_4232 : decode cL_law 4232 = .ok (.aload_n 1, 1) := by decide +kernel
theorem dL_law_4233 : decode cL_law 4233 = .ok (.invokevirtual 400, 3) := by decide +kernel
theorem dL_law_4236 : decode cL_law 4236 = .ok (.aload_n 2, 1) := by decide +kernel
theorem dL_law_4237 : decode cL_law 4237 = .ok (.invokevirtual 403, 3) := by decide +kernel
theorem dL_law_4240 : decode cL_law 4240 = .ok (.if_icmp .eq 117, 3) := by decide +kernel
theorem dL_law_4243 : decode cL_law 4243 = .ok (.iconst 0, 1) := by decide +kernel
theorem dL_law_4244 : decode cL_law 4244 = .ok (.ireturn, 1) := by decide +kernel
theorem dL_law_4245 : decode cL_law 4245 = .ok (.aload_n 1, 1) := by decide +kernel
theorem dL_law_4246 : decode cL_law 4246 = .ok (.aload_n 0, 1) := by decide +kernel
theorem dL_law_4247 : decode cL_law 4247 = .ok (.iload 5, 2) := by decide +kernel
theorem dL_law_4249 : decode cL_law 4249 = .ok (.iconst 1, 1) := by decide +kernel
theorem dL_law_4250 : decode cL_law 4250 = .ok (.iadd, 1) := by decide +kernel
theorem dL_law_4251 : decode cL_law 4251 = .ok (.iaload, 1) := by decide +kernel
theorem dL_law_4252 : decode cL_law 4252 = .ok (.aload_n 3, 1) := by decide +kernel
theorem dL_law_4253 : decode cL_law 4253 = .ok (.invokestatic 404, 3) := by decide +kernel
theorem dL_law_4256 : decode cL_law 4256 = .ok (.istore 6, 2) := by decide +kernel
theorem dL_law_4258 : decode cL_law 4258 = .ok (.aload_n 2, 1) := by decide +kernel
theorem dL_law_4259 : decode cL_law 4259 = .ok (.aload_n 0, 1) := by decide +kernel
theorem dL_law_4260 : decode cL_law 4260 = .ok (.iload 5, 2) := by decide +kernel
theorem dL_law_4262 : decode cL_law 4262 = .ok (.iconst 1, 1) := by decide +kernel
theorem dL_law_4263 : decode cL_law 4263 = .ok (.iadd, 1) := by decide +kernel
theorem dL_law_4264 : decode cL_law 4264 = .ok (.iaload, 1) := by decide +kernel
theorem dL_law_4265 : decode cL_law 4265 = .ok (.invokevirtual 406, 3) := by decide +kernel
theorem dL_law_4268 : decode cL_law 4268 = .ok (.istore 7, 2) := by decide +kernel
theorem dL_law_4270 : decode cL_law 4270 = .ok (.aload_n 2, 1) := by decide +kernel
theorem dL_law_4271 : decode cL_law 4271 = .ok (.invokevirtual 206, 3) := by decide +kernel
theorem dL_law_4274 : decode cL_law 4274 = .ok (.iload 6, 2) := by decide +kernel
theorem dL_law_4276 : decode cL_law 4276 = .ok (.if_icmp .eq 5, 3) := by decide +kernel
theorem dL_law_4279 : decode cL_law 4279 = .ok (.iconst 0, 1) := by decide +kernel
theorem dL_law_4280 : decode cL_law 4280 = .ok (.ireturn, 1) := by decide +kernel
theorem dL_law_4281 : decode cL_law 4281 = .ok (.iload 6, 2) := by decide +kernel
theorem dL_law_4283 : decode cL_law 4283 = .ok (.ifCond .ne 15, 3) := by decide +kernel
theorem dL_law_4286 : decode cL_law 4286 = .ok (.aload_n 3, 1) := by decide +kernel
theorem dL_law_4287 : decode cL_law 4287 = .ok (.iconst 0, 1) := by decide +kernel
theorem dL_law_4288 : decode cL_law 4288 = .ok (.laload, 1) := by decide +kernel
theorem dL_law_4289 : decode cL_law 4289 = .ok (.iload 7, 2) := by decide +kernel
theorem dL_law_4291 : decode cL_law 4291 = .ok (.i2l, 1) := by decide +kernel
theorem dL_law_4292 : decode cL_law 4292 = .ok (.lcmp, 1) := by decide +kernel
theorem dL_law_4293 : decode cL_law 4293 = .ok (.ifCond .eq 5, 3) := by decide +kernel
theorem dL_law_4296 : decode cL_law 4296 = .ok (.iconst 0, 1) := by decide +kernel
theorem dL_law_4297 : decode cL_law 4297 = .ok (.ireturn, 1) := by decide +kernel
theorem dL_law_4298 : decode cL_law 4298 = .ok (.goto 59, 3) := by decide +kernel
theorem dL_law_4301 : decode cL_law 4301 = .ok (.aload_n 1, 1) := by decide +kernel
theorem dL_law_4302 : decode cL_law 4302 = .ok (.aload_n 0, 1) := by decide +kernel
theorem dL_law_4303 : decode cL_law 4303 = .ok (.iload 5, 2) := by decide +kernel
theorem dL_law_4305 : decode cL_law 4305 = .ok (.iconst 1, 1) := by decide +kernel
theorem dL_law_4306 : decode cL_law 4306 = .ok (.iadd, 1) := by decide +kernel
theorem dL_law_4307 : decode cL_law 4307 = .ok (.iaload, 1) := by decide +kernel
theorem dL_law_4308 : decode cL_law 4308 = .ok (.aload_n 3, 1) := by decide +kernel
theorem dL_law_4309 : decode cL_law 4309 = .ok (.invokestatic 407, 3) := by decide +kernel
theorem dL_law_4312 : decode cL_law 4312 = .ok (.istore 6, 2) := by decide +kernel
theorem dL_law_4314 : decode cL_law 4314 = .ok (.aload_n 2, 1) := by decide +kernel
theorem dL_law_4315 : decode cL_law 4315 = .ok (.aload_n 0, 1) := by decide +kernel
theorem dL_law_4316 : decode cL_law 4316 = .ok (.iload 5, 2) := by decide +kernel
theorem dL_law_4318 : decode cL_law 4318 = .ok (.iconst 1, 1) := by decide +kernel
theorem dL_law_4319 : decode cL_law 4319 = .ok (.iadd, 1) := by decide +kernel
theorem dL_law_4320 : decode cL_law 4320 = .ok (.iaload, 1) := by decide +kernel
theorem dL_law_4321 : decode cL_law 4321 = .ok (.invokevirtual 409, 3) := by decide +kernel
theorem dL_law_4324 : decode cL_law 4324 = .ok (.istore 7, 2) := by decide +kernel
theorem dL_law_4326 : decode cL_law 4326 = .ok (.aload_n 2, 1) := by decide +kernel
theorem dL_law_4327 : decode cL_law 4327 = .ok (.invokevirtual 206, 3) := by decide +kernel
theorem dL_law_4330 : decode cL_law 4330 = .ok (.iload 6, 2) := by decide +kernel
theorem dL_law_4332 : decode cL_law 4332 = .ok (.if_icmp .eq 5, 3) := by decide +kernel
theorem dL_law_4335 : decode cL_law 4335 = .ok (.iconst 0, 1) := by decide +kernel
theorem dL_law_4336 : decode cL_law 4336 = .ok (.ireturn, 1) := by decide +kernel
theorem dL_law_4337 : decode cL_law 4337 = .ok (.iload 6, 2) := by decide +kernel
theorem dL_law_4339 : decode cL_law 4339 = .ok (.ifCond .ne 15, 3) := by decide +kernel
theorem dL_law_4342 : decode cL_law 4342 = .ok (.aload_n 3, 1) := by decide +kernel
theorem dL_law_4343 : decode cL_law 4343 = .ok (.iconst 0, 1) := by decide +kernel
theorem dL_law_4344 : decode cL_law 4344 = .ok (.laload, 1) := by decide +kernel
theorem dL_law_4345 : decode cL_law 4345 = .ok (.iload 7, 2) := by decide +kernel
theorem dL_law_4347 : decode cL_law 4347 = .ok (.i2l, 1) := by decide +kernel
theorem dL_law_4348 : decode cL_law 4348 = .ok (.lcmp, 1) := by decide +kernel
theorem dL_law_4349 : decode cL_law 4349 = .ok (.ifCond .eq 5, 3) := by decide +kernel
theorem dL_law_4352 : decode cL_law 4352 = .ok (.iconst 0, 1) := by decide +kernel
theorem dL_law_4353 : decode cL_law 4353 = .ok (.ireturn, 1) := by decide +kernel
theorem dL_law_4354 : decode cL_law 4354 = .ok (.goto 3, 3) := by decide +kernel
theorem dL_law_4357 : decode cL_law 4357 = .ok (.iinc 5 6, 3) := by decide +kernel
theorem dL_law_4360 : decode cL_law 4360 = .ok (.goto (-4332), 3) := by decide +kernel
theorem dL_law_4363 : decode cL_law 4363 = .ok (.iconst 1, 1) := by decide +kernel
theorem dL_law_4364 : decode cL_law 4364 = .ok (.ireturn, 1) := by decide +kernel
