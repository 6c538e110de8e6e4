-- behind:
theorem dL_law_3061 : decode cL_law 3061 = .ok (.iload 4, 2) := by decide +kernel
theorem dL_law_3063 : decode cL_law 3063 = .ok (.iconst 1, 1) := by decide +kernel
theorem dL_law_3064 : decode cL_law 3064 = .ok (.iadd, 1) := by decide +kernel
theorem dL_law_3065 : decode cL_law 3065 = .ok (.iaload, 1) := by decide +kernel
theorem dL_law_3066 : decode cL_law 3066 = .ok (.aload_n 0, 1) := by decide +kernel
theorem dL_law_3067 : decode cL_law 3067 = .ok (.iload 4, 2) := by decide +kernel
theorem dL_law_3069 : decode cL_law 3069 = .ok (.iconst 2, 1) := by decide +kernel
theorem dL_law_3070 : decode cL_law 3070 = .ok (.iadd, 1) := by decide +kernel
theorem dL_law_3071 : decode cL_law 3071 = .ok (.iaload, 1) := by decide +kernel
theorem dL_law_3072 : decode cL_law 3072 = .ok (.invokevirtual 361, 3) := by decide +kernel
theorem dL_law_3075 : decode cL_law 3075 = .ok (.istore 6, 2) := by decide +kernel
theorem dL_law_3077 : decode cL_law 3077 = .ok (.aload_n 2, 1) := by decide +kernel
theorem dL_law_3078 : decode cL_law 3078 = .ok (.invokevirtual 175, 3) := by decide +kernel
theorem dL_law_3081 : decode cL_law 3081 = .ok (.iload 5, 2) := by decide +kernel
theorem dL_law_3083 : decode cL_law 3083 = .ok (.if_icmp .eq 5, 3) := by decide +kernel
theorem dL_law_3086 : decode cL_law 3086 = .ok (.iconst 0, 1) := by decide +kernel
theorem dL_law_3087 : decode cL_law 3087 = .ok (.ireturn, 1) := by decide +kernel
theorem dL_law_3088 : decode cL_law 3088 = .ok (.iload 5, 2) := by decide +kernel
theorem dL_law_3090 : decode cL_law 3090 = .ok (.ifCond .ne 15, 3) := by decide +kernel
theorem dL_law_3093 : decode cL_law 3093 = .ok (.aload_n 3, 1) := by decide +kernel
theorem dL_law_3094 : decode cL_law 3094 = .ok (.iconst 0, 1) := by decide +kernel
theorem dL_law_3095 : decode cL_law 3095 = .ok (.laload, 1) := by decide +kernel
theorem dL_law_3096 : decode cL_law 3096 = .ok (.iload 6, 2) := by decide +kernel
theorem dL_law_3098 : decode cL_law 3098 = .ok (.i2l, 1) := by decide +kernel
theorem dL_law_3099 : decode cL_law 3099 = .ok (.lcmp, 1) := by decide +kernel
theorem dL_law_3100 : decode cL_law 3100 = .ok (.ifCond .eq 5, 3) := by decide +kernel
theorem dL_law_3103 : decode cL_law 3103 = .ok (.iconst 0, 1) := by decide +kernel
theorem dL_law_3104 : decode cL_law 3104 = .ok (.ireturn, 1) := by decide +kernel
theorem dL_law_3105 : decode cL_law 3105 = .ok (.goto 353, 3) := by decide +kernel
theorem dL_law_3108 : decode cL_law 3108 = .ok (.aload_n 1, 1) := by decide +kernel
theorem dL_law_3109 : decode cL_law 3109 = .ok (.aload_n 0, 1) := by decide +kernel
theorem dL_law_3110 : decode cL_law 3110 = .ok (.iload 4, 2) := by decide +kernel
theorem dL_law_3112 : decode cL_law 3112 = .ok (.iconst 1, 1) := by decide +kernel
theorem dL_law_3113 : decode cL_law 3113 = .ok (.iadd, 1) := by decide +kernel
theorem dL_law_3114 : decode cL_law 3114 = .ok (.iaload, 1) := by decide +kernel
theorem dL_law_3115 : decode cL_law 3115 = .ok (.aload_n 3, 1) := by decide +kernel
theorem dL_law_3116 : decode cL_law 3116 = .ok (.invokestatic 362, 3) := by decide +kernel
theorem dL_law_3119 : decode cL_law 3119 = .ok (.istore 5, 2) := by decide +kernel
theorem dL_law_3121 : decode cL_law 3121 = .ok (.aload_n 2, 1) := by decide +kernel
theorem dL_law_3122 : decode cL_law 3122 = .ok (.aload_n 0, 1) := by decide +kernel
theorem dL_law_3123 : decode cL_law 3123 = .ok (.iload 4, 2) := by decide +kernel
theorem dL_law_3125 : decode cL_law 3125 = .ok (.iconst 1, 1) := by decide +kernel
theorem dL_law_3126 : decode cL_law 3126 = .ok (.iadd, 1) := by decide +kernel
theorem dL_law_3127 : decode cL_law 3127 = .ok (.iaload, 1) := by decide +kernel
theorem dL_law_3128 : decode cL_law 3128 = .ok (.invokevirtual 364, 3) := by decide +kernel
theorem dL_law_3131 : decode cL_law 3131 = .ok (.istore 6, 2) := by decide +kernel
theorem dL_law_3133 : decode cL_law 3133 = .ok (.aload_n 2, 1) := by decide +kernel
theorem dL_law_3134 : decode cL_law 3134 = .ok (.invokevirtual 175, 3) := by decide +kernel
theorem dL_law_3137 : decode cL_law 3137 = .ok (.iload 5, 2) := by decide +kernel
theorem dL_law_3139 : decode cL_law 3139 = .ok (.if_icmp .eq 5, 3) := by decide +kernel
theorem dL_law_3142 : decode cL_law 3142 = .ok (.iconst 0, 1) := by decide +kernel
theorem dL_law_3143 : decode cL_law 3143 = .ok (.ireturn, 1) := by decide +kernel
theorem dL_law_3144 : decode cL_law 3144 = .ok (.iload 5, 2) := by decide +kernel
theorem dL_law_3146 : decode cL_law 3146 = .ok (.ifCond .ne 15, 3) := by decide +kernel
theorem dL_law_3149 : decode cL_law 3149 = .ok (.aload_n 3, 1) := by decide +kernel
theorem dL_law_3150 : decode cL_law 3150 = .ok (.iconst 0, 1) := by decide +kernel
theorem dL_law_3151 : decode cL_law 3151 = .ok (.laload, 1) := by decide +kernel
theorem dL_law_3152 : decode cL_law 3152 = .ok (.iload 6, 2) := by decide +kernel
theorem dL_law_3154 : decode cL_law 3154 = .ok (.i2l, 1) := by decide +kernel
theorem dL_law_3155 : decode cL_law 3155 = .ok (.lcmp, 1) := by decide +kernel
theorem dL_law_3156 : decode cL_law 3156 = .ok (.ifCond .eq 5, 3) := by decide +kernel
theorem dL_law_3159 : decode cL_law 3159 = .ok (.iconst 0, 1) := by decide +kernel
theorem dL_law_3160 : decode cL_law 3160 = .ok (.ireturn, 1) := by decide +kernel
theorem dL_law_3161 : decode cL_law 3161 = .ok (.goto 297, 3) := by decide +kernel
theorem dL_law_3164 : decode cL_law 3164 = .ok (.aload_n 1, 1) := by decide +kernel
theorem dL_law_3165 : decode cL_law 3165 = .ok (.aload_n 0, 1) := by decide +kernel
theorem dL_law_3166 : decode cL_law 3166 = .ok (.iload 4, 2) := by decide +kernel
theorem dL_law_3168 : decode cL_law 3168 = .ok (.iconst 1, 1) := by decide +kernel
theorem dL_law_3169 : decode cL_law 3169 = .ok (.iadd, 1) := by decide +kernel
theorem dL_law_3170 : decode cL_law 3170 = .ok (.iaload, 1) := by decide +kernel
theorem dL_law_3171 : decode cL_law 3171 = .ok (.aload_n 3, 1) := by decide +kernel
theorem dL_law_3172 : decode cL_law 3172 = .ok (.invokestatic 365, 3) := by decide +kernel
theorem dL_law_3175 : decode cL_law 3175 = .ok (.istore 5, 2) := by decide +kernel
theorem dL_law_3177 : decode cL_law 3177 = .ok (.aload_n 2, 1) := by decide +kernel
theorem dL_law_3178 : decode cL_law 3178 = .ok (.aload_n 0, 1) := by decide +kernel
theorem dL_law_3179 : decode cL_law 3179 = .ok (.iload 4, 2) := by decide +kernel
theorem dL_law_3181 : decode cL_law 3181 = .ok (.iconst 1, 1) := by decide +kernel
theorem dL_law_3182 : decode cL_law 3182 = .ok (.iadd, 1) := by decide +kernel
theorem dL_law_3183 : decode cL_law 3183 = .ok (.iaload, 1) := by decide +kernel
theorem dL_law_3184 : decode cL_law 3184 = .ok (.invokevirtual 367, 3) := by decide +kernel
theorem dL_law_3187 : decode cL_law 3187 = .ok (.istore 6, 2) := by decide +kernel
theorem dL_law_3189 : decode cL_law 3189 = .ok (.aload_n 2, 1) := by decide +kernel
theorem dL_law_3190 : decode cL_law 3190 = .ok (.invokevirtual 175, 3) := by decide +kernel
theorem dL_law_3193 : decode cL_law 3193 = .ok (.iload 5, 2) := by decide +kernel
theorem dL_law_3195 : decode cL_law 3195 = .ok (.if_icmp .eq 5, 3) := by decide +kernel
theorem dL_law_3198 : decode cL_law 3198 = .ok (.iconst 0, 1) := by decide +kernel
theorem dL_law_3199 : decode cL_law 3199 = .ok (.ireturn, 1) := by decide +kernel
theorem dL_law_3200 : decode cL_law 3200 = .ok (.iload 5, 2) := by decide +kernel
theorem dL_law_3202 : decode cL_law 3202 = .ok (.ifCond .ne 15, 3) := by decide +kernel
theorem dL_law_3205 : decode cL_law 3205 = .ok (.aload_n 3, 1) := by decide +kernel
theorem dL_law_3206 : decode cL_law 3206 = .ok (.iconst 0, 1) := by decide +kernel
theorem dL_law_3207 : decode cL_law 3207 = .ok (.laload, 1) := by decide +kernel
theorem dL_law_3208 : decode cL_law 3208 = .ok (.iload 6, 2) := by decide +kernel
theorem dL_law_3210 : decode cL_law 3210 = .ok (.i2l, 1) := by decide +kernel
theorem dL_law_3211 : decode cL_law 3211 = .ok (.lcmp, 1) := by decide +kernel
theorem dL_law_3212 : decode cL_law 3212 = .ok (.ifCond .eq 5, 3) := by decide +kernel
theorem dL_law_3215 : decode cL_law 3215 = .ok (.iconst 0, 1) := by decide +kernel
theorem dL_law_3216 : decode cL_law 3216 = .ok (.ireturn, 1) := by decide +kernel
theorem dL_law_3217 : decode cL_law 3217 = .ok (.goto 241, 3) := by decide +kernel
theorem dL_law_3220 : decode cL_law 3220 = .ok (.aload_n 1, 1) := by decide +kernel
theorem dL_law_3221 : decode cL_law 3221 = .ok (.invokevirtual 368, 3) := by decide +kernel
theorem dL_law_3224 : decode cL_law 3224 = .ok (.aload_n 2, 1) := by decide +kernel
theorem dL_law_3225 : decode cL_law 3225 = .ok (.invokevirtual 371, 3) := by decide +kernel
theorem dL_law_3228 : decode cL_law 3228 = .ok (.if_icmp .eq 230, 3) := by decide +kernel
theorem dL_law_3231 : decode cL_law 3231 = .ok (.iconst 0, 1) := by decide +kernel
theorem dL_law_3232 : decode cL_law 3232 = .ok (.ireturn, 1) := by decide +kernel
theorem dL_law_3233 : decode cL_law 3233 = .ok (.aload_n 1, 1) := by decide +kernel
theorem dL_law_3234 : decode cL_law 3234 = .ok (.aload_n 0, 1) := by decide +kernel
theorem dL_law_3235 : decode cL_law 3235 = .ok (.iload 4, 2) := by decide +kernel
theorem dL_law_3237 : decode cL_law 3237 = .ok (.iconst 1, 1) := by decide +kernel
theorem dL_law_3238 : decode cL_law 3238 = .ok (.iadd, 1) := by decide +kernel
theorem dL_law_3239 : decode cL_law 3239 = .ok (.iaload, 1) := by decide +kernel
theorem dL_law_3240 : decode cL_law 3240 = .ok (.aload_n 3, 1) := by decide +kernel
theorem dL_law_3241 : decode cL_law 3241 = .ok (.invokestatic 372, 3) := by decide +kernel
theorem dL_law_3244 : decode cL_law 3244 = .ok (.istore 5, 2) := by decide +kernel
theorem dL_law_3246 : decode cL_law 3246 = .ok (.aload_n 2, 1) := by decide +kernel
theorem dL_law_3247 : decode cL_law 3247 = .ok (.aload_n 0, 1) := by decide +kernel
theorem dL_law_3248 : decode cL_law 3248 = .ok (.iload 4, 2) := by decide +kernel
theorem dL_law_3250 : decode cL_law 3250 = .ok (.iconst 1, 1) := by decide +kernel
theorem dL_law_3251 : decode cL_law 3251 = .ok (.iadd, 1) := by decide +kernel
theorem dL_law_3252 : decode cL_law 3252 = .ok (.iaload, 1) := by decide +kernel
theorem dL_law_3253 : decode cL_law 3253 = .ok (.invokevirtual 374, 3) := by decide +kernel
theorem dL_law_3256 : decode cL_law 3256 = .ok (.istore 6, 2) := by decide +kernel
theorem dL_law_3258 : decode cL_law 3258 = .ok (.aload_n 2, 1) := by decide +kernel
theorem dL_law_3259 : decode cL_law 3259 = .ok (.invokevirtual 175, 3) := by decide +kernel
theorem dL_law_3262 : decode cL_law 3262 = .ok (.iload 5, 2) := by decide +kernel
theorem dL_law_3264 : decode cL_law 3264 = .ok (.if_icmp .eq 5, 3) := by decide +kernel
theorem dL_law_3267 : decode cL_law 3267 = .ok (.iconst 0, 1) := by decide +kernel
theorem dL_law_3268 : decode cL_law 3268 = .ok (.ireturn, 1) := by decide +kernel
theorem dL_law_3269 : decode cL_law 3269 = .ok (.iload 5, 2) := by decide +kernel
theorem dL_law_3271 : decode cL_law 3271 = .ok (.ifCond .ne 15, 3) := by decide +kernel
theorem dL_law_3274 : decode cL_law 3274 = .ok (.aload_n 3, 1) := by decide +kernel
theorem dL_law_3275 : decode cL_law 3275 = .ok (.iconst 0, 1) := by decide +kernel
theorem dL_law_3276 : decode cL_law 3276 = .ok (.laload, 1) := by decide +kernel
theorem dL_law_3277 : decode cL_law 3277 = .ok (.iload 6, 2) := by decide +kernel
theorem dL_law_3279 : decode cL_law 3279 = .ok (.i2l, 1) := by decide +kernel
theorem dL_law_3280 : decode cL_law 3280 = .ok (.lcmp, 1) := by decide +kernel
theorem dL_law_3281 : decode cL_law 3281 = .ok (.ifCond .eq 5, 3) := by decide +kernel
theorem dL_law_3284 : decode cL_law 3284 = .ok (.iconst 0, 1) := by decide +kernel
theorem dL_law_3285 : decode cL_law 3285 = .ok (.ireturn, 1) := by decide +kernel
theorem dL_law_3286 : decode cL_law 3286 = .ok (.goto 172, 3) := by decide +kernel
theorem dL_law_3289 : decode cL_law 3289 = .ok (.aload_n 1, 1) := by decide +kernel
theorem dL_law_3290 : decode cL_law 3290 = .ok (.aload_n 0, 1) := by decide +kernel
theorem dL_law_3291 : decode cL_law 3291 = .ok (.iload 4, 2) := by decide +kernel
theorem dL_law_3293 : decode cL_law 3293 = .ok (.iconst 1, 1) := by decide +kernel
theorem dL_law_3294 : decode cL_law 3294 = .ok (.iadd, 1) := by decide +kernel
theorem dL_law_3295 : decode cL_law 3295 = .ok (.iaload, 1) := by decide +kernel
theorem dL_law_3296 : decode cL_law 3296 = .ok (.aload_n 3, 1) := by decide +kernel
theorem dL_law_3297 : decode cL_law 3297 = .ok (.invokestatic 375, 3) := by decide +kernel
theorem dL_law_3300 : decode cL_law 3300 = .ok (.istore 5, 2) := by decide +kernel
theorem dL_law_3302 : decode cL_law 3302 = .ok (.aload_n 2, 1) := by decide +kernel
theorem dL_law_3303 : decode cL_law 3303 = .ok (.aload_n 0, 1) := by decide +kernel
theorem dL_law_3304 : decode cL_law 3304 = .ok (.iload 4, 2) := by decide +kernel
theorem dL_law_3306 : decode cL_law 3306 = .ok (.iconst 1, 1) := by decide +kernel
theorem dL_law_3307 : decode cL_law 3307 = .ok (.iadd, 1) := by decide +kernel
theorem dL_law_3308 : decode cL_law 3308 = .ok (.iaload, 1) := by decide +kernel
theorem dL_law_3309 : decode cL_law 3309 = .ok (.invokevirtual 377, 3) := by decide +kernel
theorem dL_law_3312 : decode cL_law 3312 = .ok (.istore 6, 2) := by decide +kernel
theorem dL_law_3314 : decode cL_law 3314 = .ok (.aload_n 2, 1) := by decide +kernel
theorem dL_law_3315 : decode cL_law 3315 = .ok (.invokevirtual 175, 3) := by decide +kernel
theorem dL_law_3318 : decode cL_law 3318 = .ok (.iload 5, 2) := by decide +kernel
theorem dL_law_3320 : decode cL_law 3320 = .ok (.if_icmp .eq 5, 3) := by decide +kernel
theorem dL_law_3323 : decode cL_law 3323 = .ok (.iconst 0, 1) := by decide +kernel
theorem dL_law_3324 : decode cL_law 3324 = .ok (.ireturn, 1) := by decide +kernel
theorem dL_law_3325 : decode cL_law 3325 = .ok (.iload 5, 2) := by decide +kernel
theorem dL_law_3327 : decode cL_law 3327 = .ok (.ifCond .ne 15, 3) := by decide +kernel
theorem dL_law_3330 : decode cL_law 3330 = .ok (.aload_n 3, 1) := by decide +kernel
theorem dL_law_3331 : decode cL_law 3331 = .ok (.iconst 0, 1) := by decide +kernel
theorem dL_law_3332 : decode cL_law 3332 = .ok (.laload, 1) := by decide +kernel
theorem dL_law_3333 : decode cL_law 3333 = .ok (.iload 6, 2) := by decide +kernel
theorem dL_law_3335 : decode cL_law 3335 = .ok (.i2l, 1) := by decide +kernel
theorem dL_law_3336 : decode cL_law 3336 = .ok (.lcmp, 1) := by decide +kernel
theorem dL_law_3337 : decode cL_law 3337 = .ok (.ifCond .eq 5, 3) := by decide +kernel
theorem dL_law_3340 : decode cL_law 3340 = .ok (.iconst 0, 1) := by decide +kernel
theorem dL_law_3341 : decode cL_law 3341 = .ok (.ireturn, 1) := by decide +kernel
theorem dL_law_3342 : decode cL_law 3342 = .ok (.goto 116, 3) := by decide +kernel
theorem dL_law_3345 : decode cL_law 3345 = .ok (.aload_n 1, 1) := by decide +kernel
theorem dL_law_3346 : decode cL_law 3346 = .ok (.aload_n 0, 1) := by decide +kernel
theorem dL_law_3347 : decode cL_law 3347 = .ok (.iload 4, 2) := by decide +kernel
theorem dL_law_3349 : decode cL_law 3349 = .ok (.iconst 1, 1) := by decide +kernel
theorem dL_law_3350 : decode cL_law 3350 = .ok (.iadd, 1) := by decide +kernel
theorem dL_law_3351 : decode cL_law 3351 = .ok (.iaload, 1) := by decide +kernel
theorem dL_law_3352 : decode cL_law 3352 = .ok (.aload_n 3, 1) := by decide +kernel
theorem dL_law_3353 : decode cL_law 3353 = .ok (.invokestatic 378, 3) := by decide +kernel
theorem dL_law_3356 : decode cL_law 3356 = .ok (.istore 5, 2) := by decide +kernel
theorem dL_law_3358 : decode cL_law 3358 = .ok (.aload_n 2, 1) := by decide +kernel
theorem dL_law_3359 : decode cL_law 3359 = .ok (.aload_n 0, 1) := by decide +kernel
theorem dL_law_3360 : decode cL_law 3360 = .ok (.iload 4, 2) := by decide +kernel
theorem dL_law_3362 : decode cL_law 3362 = .ok (.iconst 1, 1) := by decide +kernel
theorem dL_law_3363 : decode cL_law 3363 = .ok (.iadd, 1) := by decide +kernel
theorem dL_law_3364 : decode cL_law 3364 = .ok (.iaload, 1) := by decide +kernel
theorem dL_law_3365 : decode cL_law 3365 = .ok (.invokevirtual 380, 3) := by decide +kernel
theorem dL_law_3368 : decode cL_law 3368 = .ok (.istore 6, 2) := by decide +kernel
theorem dL_law_3370 : decode cL_law 3370 = .ok (.aload_n 2, 1) := by decide +kernel
theorem dL_law_3371 : decode cL_law 3371 = .ok (.invokevirtual 175, 3) := by decide +kernel
theorem dL_law_3374 : decode cL_law 3374 = .ok (.iload 5, 2) := by decide +kernel
theorem dL_law_3376 : decode cL_law 3376 = .ok (.if_icmp .eq 5, 3) := by decide +kernel
theorem dL_law_3379 : decode cL_law 3379 = .ok (.iconst 0, 1) := by decide +kernel
theorem dL_law_3380 : decode cL_law 3380 = .ok (.ireturn, 1) := by decide +kernel
theorem dL_law_3381 : decode cL_law 3381 = .ok (.iload 5, 2) := by decide +kernel
theorem dL_law_3383 : decode cL_law 3383 = .ok (.ifCond .ne 15, 3) := by decide +kernel
theorem dL_law_3386 : decode cL_law 3386 = .ok (.aload_n 3, 1) := by decide +kernel
theorem dL_law_3387 : decode cL_law 3387 = .ok (.iconst 0, 1) := by decide +kernel
theorem dL_law_3388 : decode cL_law 3388 = .ok (.laload, 1) := by decide +kernel
theorem dL_law_3389 : decode cL_law 3389 = .ok (.iload 6, 2) := by decide +kernel
theorem dL_law_3391 : decode cL_law 3391 = .ok (.i2l, 1) := by decide +kernel
theorem dL_law_3392 : decode cL_law 3392 = .ok (.lcmp, 1) := by decide +kernel
theorem dL_law_3393 : decode cL_law 3393 = .ok (.ifCond .eq 5, 3) := by decide +kernel
theorem dL_law_3396 : decode cL_law 3396 = .ok (.iconst 0, 1) := by decide +kernel
theorem dL_law_3397 : decode cL_law 3397 = .ok (.ireturn, 1) := by decide +kernel
theorem dL_law_3398 : decode cL_law 3398 = .ok (.goto 60, 3) := by decide +kernel
theorem dL_law_3401 : decode cL_law 3401 = .ok (.aload_n 1, 1) := by decide +kernel
theorem dL_law_3402 : decode cL_law 3402 = .ok (.aload_n 3, 1) := by decide +kernel
theorem dL_law_3403 : decode cL_law 3403 = .ok (.invokestatic 381, 3) := by decide +kernel
theorem dL_law_3406 : decode cL_law 3406 = .ok (.istore 5, 2) := by decide +kernel
theorem dL_law_3408 : decode cL_law 3408 = .ok (.aload_n 2, 1) := by decide +kernel
theorem dL_law_3409 : decode cL_law 3409 = .ok (.invokevirtual 383, 3) := by decide +kernel
theorem dL_law_3412 : decode cL_law 3412 = .ok (.istore 6, 2) := by decide +kernel
theorem dL_law_3414 : decode cL_law 3414 = .ok (.aload_n 2, 1) := by decide +kernel
theorem dL_law_3415 : decode cL_law 3415 = .ok (.invokevirtual 175, 3) := by decide +kernel
theorem dL_law_3418 : decode cL_law 3418 = .ok (.iload 5, 2) := by decide +kernel
theorem dL_law_3420 : decode cL_law 3420 = .ok (.if_icmp .eq 5, 3) := by decide +kernel
theorem dL_law_3423 : decode cL_law 3423 = .ok (.iconst 0, 1) := by decide +kernel
theorem dL_law_3424 : decode cL_law 3424 = .ok (.ireturn, 1) := by decide +kernel
theorem dL_law_3425 : decode cL_law 3425 = .ok (.iload 5, 2) := by decide +kernel
theorem dL_law_3427 : decode cL_law 3427 = .ok (.ifCond .ne 15, 3) := by decide +kernel
theorem dL_law_3430 : decode cL_law 3430 = .ok (.aload_n 3, 1) := by decide +kernel
theorem dL_law_3431 : decode cL_law 3431 = .ok (.iconst 0, 1) := by decide +kernel
theorem dL_law_3432 : decode cL_law 3432 = .ok (.laload, 1) := by decide +kernel
theorem dL_law_3433 : decode cL_law 3433 = .ok (.iload 6, 2) := by decide +kernel
theorem dL_law_3435 : decode cL_law 3435 = .ok (.i2l, 1) := by decide +kernel
theorem dL_law_3436 : decode cL_law 3436 = .ok (.lcmp, 1) := by decide +kernel
theorem dL_law_3437 : decode cL_law 3437 = .ok (.ifCond .eq 5, 3) := by decide +kernel
theorem dL_law_3440 : decode cL_law 3440 = .ok (.iconst 0, 1) := by decide +kernel
theorem dL_law_3441 : decode cL_law 3441 = .ok (.ireturn, 1) := by decide +kernel
theorem dL_law_3442 : decode cL_law 3442 = .ok (.goto 16, 3) := by decide +kernel
theorem dL_law_3445 : decode cL_law 3445 = .ok (.aload_n 1, 1) := by decide +kernel
theorem dL_law_3446 : decode cL_law 3446 = .ok (.invokevirtual 384, 3) := by decide +kernel
theorem dL_law_3449 : decode cL_law 3449 = .ok (.aload_n 2, 1) := by decide +kernel
theorem dL_law_3450 : decode cL_law 3450 = .ok (.invokevirtual 387, 3) := by decide +kernel
theorem dL_law_3453 : decode cL_law 3453 = .ok (.if_icmp .eq 5, 3) := by decide +kernel
theorem dL_law_3456 : decode cL_law 3456 = .ok (.iconst 0, 1) := by decide +kernel
theorem dL_law_3457 : decode cL_law 3457 = .ok (.ireturn, 1) := by decide +kernel
theorem dL_law_3458 : decode cL_law 3458 = .ok (.iinc 4 6, 3) := by decide +kernel
theorem dL_law_3461 : decode cL_law 3461 = .ok (.goto (-3438), 3) := by decide +kernel
theorem dL_law_3464 : decode cL_law 3464 = .ok (.iconst 1, 1) := by decide +kernel
theorem dL_law_3465 : decode cL_law 3465 = .ok (.ireturn, 1) := by decide +kernel
