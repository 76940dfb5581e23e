theorem dL_law__3075 : decode cL_law_ 3075 = .ok (.invokevirtual 340, 3) := by decide +kernel
theorem dL_law__3078 : decode cL_law_ 3078 = .ok (.istore 6, 2) := by decide +kernel
theorem dL_law__3080 : decode cL_law_ 3080 = .ok (.aload_n 2, 1) := by decide +kernel
theorem dL_law__3081 : decode cL_law_ 3081 = .ok (.invokevirtual 166, 3) := by decide +kernel
theorem dL_law__3084 : decode cL_law_ 3084 = .ok (.iload 5, 2) := by decide +kernel
theorem dL_law__3086 : decode cL_law_ 3086 = .ok (.if_icmp .eq 5, 3) := by decide +kernel
theorem dL_law__3089 : decode cL_law_ 3089 = .ok (.iconst 0, 1) := by decide +kernel
theorem dL_law__3090 : decode cL_law_ 3090 = .ok (.ireturn, 1) := by decide +kernel
theorem dL_law__3091 : decode cL_law_ 3091 = .ok (.iload 5, 2) := by decide +kernel
theorem dL_law__3093 : decode cL_law_ 3093 = .ok (.ifCond .ne 15, 3) := by decide +kernel
theorem dL_law__3096 : decode cL_law_ 3096 = .ok (.aload_n 3, 1) := by decide +kernel
theorem dL_law__3097 : decode cL_law_ 3097 = .ok (.iconst 0, 1) := by decide +kernel
theorem dL_law__3098 : decode cL_law_ 3098 = .ok (.laload, 1) := by decide +kernel
theorem dL_law__3099 : decode cL_law_ 3099 = .ok (.iload 6, 2) := by decide +kernel
theorem dL_law__3101 : decode cL_law_ 3101 = .ok (.i2l, 1) := by decide +kernel
theorem dL_law__3102 : decode cL_law_ 3102 = .ok (.lcmp, 1) := by decide +kernel
theorem dL_law__3103 : decode cL_law_ 3103 = .ok (.ifCond .eq 5, 3) := by decide +kernel
theorem dL_law__3106 : decode cL_law_ 3106 = .ok (.iconst 0, 1) := by decide +kernel
theorem dL_law__3107 : decode cL_law_ 3107 = .ok (.ireturn, 1) := by decide +kernel
theorem dL_law__3108 : decode cL_law_ 3108 = .ok (.goto 410, 3) := by decide +kernel
theorem dL_law__3111 : decode cL_law_ 3111 = .ok (.aload_n 1, 1) := by decide +kernel
theorem dL_law__3112 : decode cL_law_ 3112 = .ok (.aload_n 0, 1) := by decide +kernel
theorem dL_law__3113 : decode cL_law_ 3113 = .ok (.iload 4, 2) := by decide +kernel
theorem dL_law__3115 : decode cL_law_ 3115 = .ok (.iconst 1, 1) := by decide +kernel
theorem dL_law__3116 : decode cL_law_ 3116 = .ok (.iadd, 1) := by decide +kernel
theorem dL_law__3117 : decode cL_law_ 3117 = .ok (.iaload, 1) := by decide +kernel
theorem dL_law__3118 : decode cL_law_ 3118 = .ok (.aload_n 0, 1) := by decide +kernel
theorem dL_law__3119 : decode cL_law_ 3119 = .ok (.iload 4, 2) := by decide +kernel
theorem dL_law__3121 : decode cL_law_ 3121 = .ok (.iconst 2, 1) := by decide +kernel
theorem dL_law__3122 : decode cL_law_ 3122 = .ok (.iadd, 1) := by decide +kernel
theorem dL_law__3123 : decode cL_law_ 3123 = .ok (.iaload, 1) := by decide +kernel
theorem dL_law__3124 : decode cL_law_ 3124 = .ok (.ifCond .eq 7, 3) := by decide +kernel
theorem dL_law__3127 : decode cL_law_ 3127 = .ok (.iconst 1, 1) := by decide +kernel
theorem dL_law__3128 : decode cL_law_ 3128 = .ok (.goto 4, 3) := by decide +kernel
theorem dL_law__3131 : decode cL_law_ 3131 = .ok (.iconst 0, 1) := by decide +kernel
theorem dL_law__3132 : decode cL_law_ 3132 = .ok (.aload_n 3, 1) := by decide +kernel
theorem dL_law__3133 : decode cL_law_ 3133 = .ok (.invokestatic 341, 3) := by decide +kernel
theorem dL_law__3136 : decode cL_law_ 3136 = .ok (.istore 5, 2) := by decide +kernel
theorem dL_law__3138 : decode cL_law_ 3138 = .ok (.aload_n 2, 1) := by decide +kernel
theorem dL_law__3139 : decode cL_law_ 3139 = .ok (.aload_n 0, 1) := by decide +kernel
theorem dL_law__3140 : decode cL_law_ 3140 = .ok (.iload 4, 2) := by decide +kernel
theorem dL_law__3142 : decode cL_law_ 3142 = .ok (.iconst 1, 1) := by decide +kernel
theorem dL_law__3143 : decode cL_law_ 3143 = .ok (.iadd, 1) := by decide +kernel
theorem dL_law__3144 : decode cL_law_ 3144 = .ok (.iaload, 1) := by decide +kernel
theorem dL_law__3145 : decode cL_law_ 3145 = .ok (.aload_n 0, 1) := by decide +kernel
theorem dL_law__3146 : decode cL_law_ 3146 = .ok (.iload 4, 2) := by decide +kernel
theorem dL_law__3148 : decode cL_law_ 3148 = .ok (.iconst 2, 1) := by decide +kernel
theorem dL_law__3149 : decode cL_law_ 3149 = .ok (.iadd, 1) := by decide +kernel
theorem dL_law__3150 : decode cL_law_ 3150 = .ok (.iaload, 1) := by decide +kernel
theorem dL_law__3151 : decode cL_law_ 3151 = .ok (.ifCond .eq 7, 3) := by decide +kernel
theorem dL_law__3154 : decode cL_law_ 3154 = .ok (.iconst 1, 1) := by decide +kernel
theorem dL_law__3155 : decode cL_law_ 3155 = .ok (.goto 4, 3) := by decide +kernel
theorem dL_law__3158 : decode cL_law_ 3158 = .ok (.iconst 0, 1) := by decide +kernel
theorem dL_law__3159 : decode cL_law_ 3159 = .ok (.invokevirtual 343, 3) := by decide +kernel
theorem dL_law__3162 : decode cL_law_ 3162 = .ok (.istore 6, 2) := by decide +kernel
theorem dL_law__3164 : decode cL_law_ 3164 = .ok (.aload_n 2, 1) := by decide +kernel
theorem dL_law__3165 : decode cL_law_ 3165 = .ok (.invokevirtual 166, 3) := by decide +kernel
theorem dL_law__3168 : decode cL_law_ 3168 = .ok (.iload 5, 2) := by decide +kernel
theorem dL_law__3170 : decode cL_law_ 3170 = .ok (.if_icmp .eq 5, 3) := by decide +kernel
theorem dL_law__3173 : decode cL_law_ 3173 = .ok (.iconst 0, 1) := by decide +kernel
theorem dL_law__3174 : decode cL_law_ 3174 = .ok (.ireturn, 1) := by decide +kernel
theorem dL_law__3175 : decode cL_law_ 3175 = .ok (.iload 5, 2) := by decide +kernel
theorem dL_law__3177 : decode cL_law_ 3177 = .ok (.ifCond .ne 15, 3) := by decide +kernel
theorem dL_law__3180 : decode cL_law_ 3180 = .ok (.aload_n 3, 1) := by decide +kernel
theorem dL_law__3181 : decode cL_law_ 3181 = .ok (.iconst 0, 1) := by decide +kernel
theorem dL_law__3182 : decode cL_law_ 3182 = .ok (.laload, 1) := by decide +kernel
theorem dL_law__3183 : decode cL_law_ 3183 = .ok (.iload 6, 2) := by decide +kernel
theorem dL_law__3185 : decode cL_law_ 3185 = .ok (.i2l, 1) := by decide +kernel
theorem dL_law__3186 : decode cL_law_ 3186 = .ok (.lcmp, 1) := by decide +kernel
theorem dL_law__3187 : decode cL_law_ 3187 = .ok (.ifCond .eq 5, 3) := by decide +kernel
theorem dL_law__3190 : decode cL_law_ 3190 = .ok (.iconst 0, 1) := by decide +kernel
theorem dL_law__3191 : decode cL_law_ 3191 = .ok (.ireturn, 1) := by decide +kernel
theorem dL_law__3192 : decode cL_law_ 3192 = .ok (.goto 326, 3) := by decide +kernel
theorem dL_law__3195 : decode cL_law_ 3195 = .ok (.aload_n 1, 1) := by decide +kernel
theorem dL_law__3196 : decode cL_law_ 3196 = .ok (.aload_n 0, 1) := by decide +kernel
theorem dL_law__3197 : decode cL_law_ 3197 = .ok (.iload 4, 2) := by decide +kernel
theorem dL_law__3199 : decode cL_law_ 3199 = .ok (.iconst 1, 1) := by decide +kernel
theorem dL_law__3200 : decode cL_law_ 3200 = .ok (.iadd, 1) := by decide +kernel
theorem dL_law__3201 : decode cL_law_ 3201 = .ok (.iaload, 1) := by decide +kernel
theorem dL_law__3202 : decode cL_law_ 3202 = .ok (.aload_n 0, 1) := by decide +kernel
theorem dL_law__3203 : decode cL_law_ 3203 = .ok (.iload 4, 2) := by decide +kernel
theorem dL_law__3205 : decode cL_law_ 3205 = .ok (.iconst 2, 1) := by decide +kernel
theorem dL_law__3206 : decode cL_law_ 3206 = .ok (.iadd, 1) := by decide +kernel
theorem dL_law__3207 : decode cL_law_ 3207 = .ok (.iaload, 1) := by decide +kernel
theorem dL_law__3208 : decode cL_law_ 3208 = .ok (.ifCond .eq 7, 3) := by decide +kernel
theorem dL_law__3211 : decode cL_law_ 3211 = .ok (.iconst 1, 1) := by decide +kernel
theorem dL_law__3212 : decode cL_law_ 3212 = .ok (.goto 4, 3) := by decide +kernel
theorem dL_law__3215 : decode cL_law_ 3215 = .ok (.iconst 0, 1) := by decide +kernel
theorem dL_law__3216 : decode cL_law_ 3216 = .ok (.aload_n 3, 1) := by decide +kernel
theorem dL_law__3217 : decode cL_law_ 3217 = .ok (.invokestatic 344, 3) := by decide +kernel
theorem dL_law__3220 : decode cL_law_ 3220 = .ok (.istore 5, 2) := by decide +kernel
theorem dL_law__3222 : decode cL_law_ 3222 = .ok (.aload_n 2, 1) := by decide +kernel
theorem dL_law__3223 : decode cL_law_ 3223 = .ok (.aload_n 0, 1) := by decide +kernel
theorem dL_law__3224 : decode cL_law_ 3224 = .ok (.iload 4, 2) := by decide +kernel
theorem dL_law__3226 : decode cL_law_ 3226 = .ok (.iconst 1, 1) := by decide +kernel
theorem dL_law__3227 : decode cL_law_ 3227 = .ok (.iadd, 1) := by decide +kernel
theorem dL_law__3228 : decode cL_law_ 3228 = .ok (.iaload, 1) := by decide +kernel
theorem dL_law__3229 : decode cL_law_ 3229 = .ok (.aload_n 0, 1) := by decide +kernel
theorem dL_law__3230 : decode cL_law_ 3230 = .ok (.iload 4, 2) := by decide +kernel
theorem dL_law__3232 : decode cL_law_ 3232 = .ok (.iconst 2, 1) := by decide +kernel
theorem dL_law__3233 : decode cL_law_ 3233 = .ok (.iadd, 1) := by decide +kernel
theorem dL_law__3234 : decode cL_law_ 3234 = .ok (.iaload, 1) := by decide +kernel
theorem dL_law__3235 : decode cL_law_ 3235 = .ok (.ifCond .eq 7, 3) := by decide +kernel
theorem dL_law__3238 : decode cL_law_ 3238 = .ok (.iconst 1, 1) := by decide +kernel
theorem dL_law__3239 : decode cL_law_ 3239 = .ok (.goto 4, 3) := by decide +kernel
theorem dL_law__3242 : decode cL_law_ 3242 = .ok (.iconst 0, 1) := by decide +kernel
theorem dL_law__3243 : decode cL_law_ 3243 = .ok (.invokevirtual 346, 3) := by decide +kernel
theorem dL_law__3246 : decode cL_law_ 3246 = .ok (.istore 6, 2) := by decide +kernel
theorem dL_law__3248 : decode cL_law_ 3248 = .ok (.aload_n 2, 1) := by decide +kernel
theorem dL_law__3249 : decode cL_law_ 3249 = .ok (.invokevirtual 166, 3) := by decide +kernel
theorem dL_law__3252 : decode cL_law_ 3252 = .ok (.iload 5, 2) := by decide +kernel
theorem dL_law__3254 : decode cL_law_ 3254 = .ok (.if_icmp .eq 5, 3) := by decide +kernel
theorem dL_law__3257 : decode cL_law_ 3257 = .ok (.iconst 0, 1) := by decide +kernel
theorem dL_law__3258 : decode cL_law_ 3258 = .ok (.ireturn, 1) := by decide +kernel
theorem dL_law__3259 : decode cL_law_ 3259 = .ok (.iload 5, 2) := by decide +kernel
theorem dL_law__3261 : decode cL_law_ 3261 = .ok (.ifCond .ne 15, 3) := by decide +kernel
theorem dL_law__3264 : decode cL_law_ 3264 = .ok (.aload_n 3, 1) := by decide +kernel
theorem dL_law__3265 : decode cL_law_ 3265 = .ok (.iconst 0, 1) := by decide +kernel
theorem dL_law__3266 : decode cL_law_ 3266 = .ok (.laload, 1) := by decide +kernel
theorem dL_law__3267 : decode cL_law_ 3267 = .ok (.iload 6, 2) := by decide +kernel
theorem dL_law__3269 : decode cL_law_ 3269 = .ok (.i2l, 1) := by decide +kernel
theorem dL_law__3270 : decode cL_law_ 3270 = .ok (.lcmp, 1) := by decide +kernel
theorem dL_law__3271 : decode cL_law_ 3271 = .ok (.ifCond .eq 5, 3) := by decide +kernel
theorem dL_law__3274 : decode cL_law_ 3274 = .ok (.iconst 0, 1) := by decide +kernel
theorem dL_law__3275 : decode cL_law_ 3275 = .ok (.ireturn, 1) := by decide +kernel
theorem dL_law__3276 : decode cL_law_ 3276 = .ok (.goto 242, 3) := by decide +kernel
theorem dL_law__3279 : decode cL_law_ 3279 = .ok (.aload_n 1, 1) := by decide +kernel
theorem dL_law__3280 : decode cL_law_ 3280 = .ok (.aload_n 0, 1) := by decide +kernel
theorem dL_law__3281 : decode cL_law_ 3281 = .ok (.iload 4, 2) := by decide +kernel
theorem dL_law__3283 : decode cL_law_ 3283 = .ok (.iconst 1, 1) := by decide +kernel
theorem dL_law__3284 : decode cL_law_ 3284 = .ok (.iadd, 1) := by decide +kernel
theorem dL_law__3285 : decode cL_law_ 3285 = .ok (.iaload, 1) := by decide +kernel
theorem dL_law__3286 : decode cL_law_ 3286 = .ok (.aload_n 0, 1) := by decide +kernel
theorem dL_law__3287 : decode cL_law_ 3287 = .ok (.iload 4, 2) := by decide +kernel
theorem dL_law__3289 : decode cL_law_ 3289 = .ok (.iconst 2, 1) := by decide +kernel
theorem dL_law__3290 : decode cL_law_ 3290 = .ok (.iadd, 1) := by decide +kernel
theorem dL_law__3291 : decode cL_law_ 3291 = .ok (.iaload, 1) := by decide +kernel
theorem dL_law__3292 : decode cL_law_ 3292 = .ok (.ifCond .eq 7, 3) := by decide +kernel
theorem dL_law__3295 : decode cL_law_ 3295 = .ok (.iconst 1, 1) := by decide +kernel
theorem dL_law__3296 : decode cL_law_ 3296 = .ok (.goto 4, 3) := by decide +kernel
theorem dL_law__3299 : decode cL_law_ 3299 = .ok (.iconst 0, 1) := by decide +kernel
theorem dL_law__3300 : decode cL_law_ 3300 = .ok (.aload_n 3, 1) := by decide +kernel
theorem dL_law__3301 : decode cL_law_ 3301 = .ok (.invokestatic 347, 3) := by decide +kernel
theorem dL_law__3304 : decode cL_law_ 3304 = .ok (.istore 5, 2) := by decide +kernel
theorem dL_law__3306 : decode cL_law_ 3306 = .ok (.aload_n 2, 1) := by decide +kernel
theorem dL_law__3307 : decode cL_law_ 3307 = .ok (.aload_n 0, 1) := by decide +kernel
theorem dL_law__3308 : decode cL_law_ 3308 = .ok (.iload 4, 2) := by decide +kernel
theorem dL_law__3310 : decode cL_law_ 3310 = .ok (.iconst 1, 1) := by decide +kernel
theorem dL_law__3311 : decode cL_law_ 3311 = .ok (.iadd, 1) := by decide +kernel
theorem dL_law__3312 : decode cL_law_ 3312 = .ok (.iaload, 1) := by decide +kernel
theorem dL_law__3313 : decode cL_law_ 3313 = .ok (.aload_n 0, 1) := by decide +kernel
theorem dL_law__3314 : decode cL_law_ 3314 = .ok (.iload 4, 2) := by decide +kernel
theorem dL_law__3316 : decode cL_law_ 3316 = .ok (.iconst 2, 1) := by decide +kernel
theorem dL_law__3317 : decode cL_law_ 3317 = .ok (.iadd, 1) := by decide +kernel
theorem dL_law__3318 : decode cL_law_ 3318 = .ok (.iaload, 1) := by decide +kernel
theorem dL_law__3319 : decode cL_law_ 3319 = .ok (.ifCond .eq 7, 3) := by decide +kernel
theorem dL_law__3322 : decode cL_law_ 3322 = .ok (.iconst 1, 1) := by decide +kernel
theorem dL_law__3323 : decode cL_law_ 3323 = .ok (.goto 4, 3) := by decide +kernel
theorem dL_law__3326 : decode cL_law_ 3326 = .ok (.iconst 0, 1) := by decide +kernel
theorem dL_law__3327 : decode cL_law_ 3327 = .ok (.invokevirtual 349, 3) := by decide +kernel
theorem dL_law__3330 : decode cL_law_ 3330 = .ok (.istore 6, 2) := by decide +kernel
theorem dL_law__3332 : decode cL_law_ 3332 = .ok (.aload_n 2, 1) := by decide +kernel
theorem dL_law__3333 : decode cL_law_ 3333 = .ok (.invokevirtual 166, 3) := by decide +kernel
theorem dL_law__3336 : decode cL_law_ 3336 = .ok (.iload 5, 2) := by decide +kernel
theorem dL_law__3338 : decode cL_law_ 3338 = .ok (.if_icmp .eq 5, 3) := by decide +kernel
theorem dL_law__3341 : decode cL_law_ 3341 = .ok (.iconst 0, 1) := by decide +kernel
theorem dL_law__3342 : decode cL_law_ 3342 = .ok (.ireturn, 1) := by decide +kernel
theorem dL_law__3343 : decode cL_law_ 3343 = .ok (.iload 5, 2) := by decide +kernel
theorem dL_law__3345 : decode cL_law_ 3345 = .ok (.ifCond .ne 15, 3) := by decide +kernel
theorem dL_law__3348 : decode cL_law_ 3348 = .ok (.aload_n 3, 1) := by decide +kernel
theorem dL_law__3349 : decode cL_law_ 3349 = .ok (.iconst 0, 1) := by decide +kernel
theorem dL_law__3350 : decode cL_law_ 3350 = .ok (.laload, 1) := by decide +kernel
theorem dL_law__3351 : decode cL_law_ 3351 = .ok (.iload 6, 2) := by decide +kernel
theorem dL_law__3353 : decode cL_law_ 3353 = .ok (.i2l, 1) := by decide +kernel
theorem dL_law__3354 : decode cL_law_ 3354 = .ok (.lcmp, 1) := by decide +kernel
theorem dL_law__3355 : decode cL_law_ 3355 = .ok (.ifCond .eq 5, 3) := by decide +kernel
theorem dL_law__3358 : decode cL_law_ 3358 = .ok (.iconst 0, 1) := by decide +kernel
theorem dL_law__3359 : decode cL_law_ 3359 = .ok (.ireturn, 1) := by decide +kernel
theorem dL_law__3360 : decode cL_law_ 3360 = .ok (.goto 158, 3) := by decide +kernel
theorem dL_law__3363 : decode cL_law_ 3363 = .ok (.aload_n 1, 1) := by decide +kernel
theorem dL_law__3364 : decode cL_law_ 3364 = .ok (.aload_n 0, 1) := by decide +kernel
theorem dL_law__3365 : decode cL_law_ 3365 = .ok (.iload 4, 2) := by decide +kernel
theorem dL_law__3367 : decode cL_law_ 3367 = .ok (.iconst 1, 1) := by decide +kernel
theorem dL_law__3368 : decode cL_law_ 3368 = .ok (.iadd, 1) := by decide +kernel
theorem dL_law__3369 : decode cL_law_ 3369 = .ok (.iaload, 1) := by decide +kernel
theorem dL_law__3370 : decode cL_law_ 3370 = .ok (.aload_n 0, 1) := by decide +kernel
theorem dL_law__3371 : decode cL_law_ 3371 = .ok (.iload 4, 2) := by decide +kernel
theorem dL_law__3373 : decode cL_law_ 3373 = .ok (.iconst 2, 1) := by decide +kernel
theorem dL_law__3374 : decode cL_law_ 3374 = .ok (.iadd, 1) := by decide +kernel
theorem dL_law__3375 : decode cL_law_ 3375 = .ok (.iaload, 1) := by decide +kernel
theorem dL_law__3376 : decode cL_law_ 3376 = .ok (.aload_n 3, 1) := by decide +kernel
theorem dL_law__3377 : decode cL_law_ 3377 = .ok (.invokestatic 350, 3) := by decide +kernel
theorem dL_law__3380 : decode cL_law_ 3380 = .ok (.istore 5, 2) := by decide +kernel
theorem dL_law__3382 : decode cL_law_ 3382 = .ok (.aload_n 2, 1) := by decide +kernel
theorem dL_law__3383 : decode cL_law_ 3383 = .ok (.aload_n 0, 1) := by decide +kernel
theorem dL_law__3384 : decode cL_law_ 3384 = .ok (.iload 4, 2) := by decide +kernel
theorem dL_law__3386 : decode cL_law_ 3386 = .ok (.iconst 1, 1) := by decide +kernel
theorem dL_law__3387 : decode cL_law_ 3387 = .ok (.iadd, 1) := by decide +kernel
theorem dL_law__3388 : decode cL_law_ 3388 = .ok (.iaload, 1) := by decide +kernel
theorem dL_law__3389 : decode cL_law_ 3389 = .ok (.aload_n 0, 1) := by decide +kernel
theorem dL_law__3390 : decode cL_law_ 3390 = .ok (.iload 4, 2) := by decide +kernel
theorem dL_law__3392 : decode cL_law_ 3392 = .ok (.iconst 2, 1) := by decide +kernel
theorem dL_law__3393 : decode cL_law_ 3393 = .ok (.iadd, 1) := by decide +kernel
theorem dL_law__3394 : decode cL_law_ 3394 = .ok (.iaload, 1) := by decide +kernel
theorem dL_law__3395 : decode cL_law_ 3395 = .ok (.invokevirtual 352, 3) := by decide +kernel
theorem dL_law__3398 : decode cL_law_ 3398 = .ok (.istore 6, 2) := by decide +kernel
theorem dL_law__3400 : decode cL_law_ 3400 = .ok (.aload_n 2, 1) := by decide +kernel
theorem dL_law__3401 : decode cL_law_ 3401 = .ok (.invokevirtual 166, 3) := by decide +kernel
theorem dL_law__3404 : decode cL_law_ 3404 = .ok (.iload 5, 2) := by decide +kernel
theorem dL_law__3406 : decode cL_law_ 3406 = .ok (.if_icmp .eq 5, 3) := by decide +kernel
theorem dL_law__3409 : decode cL_law_ 3409 = .ok (.iconst 0, 1) := by decide +kernel
theorem dL_law__3410 : decode cL_law_ 3410 = .ok (.ireturn, 1) := by decide +kernel
theorem dL_law__3411 : decode cL_law_ 3411 = .ok (.iload 5, 2) := by decide +kernel
theorem dL_law__3413 : decode cL_law_ 3413 = .ok (.ifCond .ne 15, 3) := by decide +kernel
theorem dL_law__3416 : decode cL_law_ 3416 = .ok (.aload_n 3, 1) := by decide +kernel
theorem dL_law__3417 : decode cL_law_ 3417 = .ok (.iconst 0, 1) := by decide +kernel
theorem dL_law__3418 : decode cL_law_ 3418 = .ok (.laload, 1) := by decide +kernel
theorem dL_law__3419 : decode cL_law_ 3419 = .ok (.iload 6, 2) := by decide +kernel
theorem dL_law__3421 : decode cL_law_ 3421 = .ok (.i2l, 1) := by decide +kernel
theorem dL_law__3422 : decode cL_law_ 3422 = .ok (.lcmp, 1) := by decide +kernel
theorem dL_law__3423 : decode cL_law_ 3423 = .ok (.ifCond .eq 5, 3) := by decide +kernel
theorem dL_law__3426 : decode cL_law_ 3426 = .ok (.iconst 0, 1) := by decide +kernel
theorem dL_law__3427 : decode cL_law_ 3427 = .ok (.ireturn, 1) := by decide +kernel
theorem dL_law__3428 : decode cL_law_ 3428 = .ok (.goto 90, 3) := by decide +kernel
theorem dL_law__3431 : decode cL_law_ 3431 = .ok (.aload_n 1, 1) := by decide +kernel
theorem dL_law__3432 : decode cL_law_ 3432 = .ok (.aload_n 0, 1) := by decide +kernel
theorem dL_law__3433 : decode cL_law_ 3433 = .ok (.iload 4, 2) := by decide +kernel
theorem dL_law__3435 : decode cL_law_ 3435 = .ok (.iconst 1, 1) := by decide +kernel
theorem dL_law__3436 : decode cL_law_ 3436 = .ok (.iadd, 1) := by decide +kernel
theorem dL_law__3437 : decode cL_law_ 3437 = .ok (.iaload, 1) := by decide +kernel
theorem dL_law__3438 : decode cL_law_ 3438 = .ok (.invokevirtual 353, 3) := by decide +kernel
theorem dL_law__3441 : decode cL_law_ 3441 = .ok (.aload_n 2, 1) := by decide +kernel
theorem dL_law__3442 : decode cL_law_ 3442 = .ok (.aload_n 0, 1) := by decide +kernel
theorem dL_law__3443 : decode cL_law_ 3443 = .ok (.iload 4, 2) := by decide +kernel
theorem dL_law__3445 : decode cL_law_ 3445 = .ok (.iconst 1, 1) := by decide +kernel
theorem dL_law__3446 : decode cL_law_ 3446 = .ok (.iadd, 1) := by decide +kernel
theorem dL_law__3447 : decode cL_law_ 3447 = .ok (.iaload, 1) := by decide +kernel
theorem dL_law__3448 : decode cL_law_ 3448 = .ok (.invokevirtual 356, 3) := by decide +kernel
theorem dL_law__3451 : decode cL_law_ 3451 = .ok (.if_icmp .eq 67, 3) := by decide +kernel
theorem dL_law__3454 : decode cL_law_ 3454 = .ok (.iconst 0, 1) := by decide +kernel
theorem dL_law__3455 : decode cL_law_ 3455 = .ok (.ireturn, 1) := by decide +kernel
theorem dL_law__3456 : decode cL_law_ 3456 = .ok (.aload_n 1, 1) := by decide +kernel
theorem dL_law__3457 : decode cL_law_ 3457 = .ok (.invokevirtual 357, 3) := by decide +kernel
theorem dL_law__3460 : decode cL_law_ 3460 = .ok (.aload_n 2, 1) := by decide +kernel
theorem dL_law__3461 : decode cL_law_ 3461 = .ok (.invokevirtual 361, 3) := by decide +kernel
theorem dL_law__3464 : decode cL_law_ 3464 = .ok (.if_icmp .eq 54, 3) := by decide +kernel
theorem dL_law__3467 : decode cL_law_ 3467 = .ok (.iconst 0, 1) := by decide +kernel
theorem dL_law__3468 : decode cL_law_ 3468 = .ok (.ireturn, 1) := by decide +kernel
theorem dL_law__3469 : decode cL_law_ 3469 = .ok (.aload_n 1, 1) := by decide +kernel
theorem dL_law__3470 : decode cL_law_ 3470 = .ok (.invokevirtual 362, 3) := by decide +kernel
theorem dL_law__3473 : decode cL_law_ 3473 = .ok (.aload_n 2, 1) := by decide +kernel
theorem dL_law__3474 : decode cL_law_ 3474 = .ok (.invokevirtual 365, 3) := by decide +kernel
theorem dL_law__3477 : decode cL_law_ 3477 = .ok (.goto 41, 3) := by decide +kernel
theorem dL_law__3480 : decode cL_law_ 3480 = .ok (.aload_n 1, 1) := by decide +kernel
theorem dL_law__3481 : decode cL_law_ 3481 = .ok (.invokevirtual 366, 3) := by decide +kernel
theorem dL_law__3484 : decode cL_law_ 3484 = .ok (.aload_n 2, 1) := by decide +kernel
theorem dL_law__3485 : decode cL_law_ 3485 = .ok (.invokevirtual 369, 3) := by decide +kernel
theorem dL_law__3488 : decode cL_law_ 3488 = .ok (.if_icmp .eq 30, 3) := by decide +kernel
theorem dL_law__3491 : decode cL_law_ 3491 = .ok (.iconst 0, 1) := by decide +kernel
theorem dL_law__3492 : decode cL_law_ 3492 = .ok (.ireturn, 1) := by decide +kernel
theorem dL_law__3493 : decode cL_law_ 3493 = .ok (.aload_n 1, 1) := by decide +kernel
theorem dL_law__3494 : decode cL_law_ 3494 = .ok (.aload_n 0, 1) := by decide +kernel
theorem dL_law__3495 : decode cL_law_ 3495 = .ok (.iload 4, 2) := by decide +kernel
theorem dL_law__3497 : decode cL_law_ 3497 = .ok (.iconst 1, 1) := by decide +kernel
theorem dL_law__3498 : decode cL_law_ 3498 = .ok (.iadd, 1) := by decide +kernel
theorem dL_law__3499 : decode cL_law_ 3499 = .ok (.iaload, 1) := by decide +kernel
theorem dL_law__3500 : decode cL_law_ 3500 = .ok (.invokevirtual 370, 3) := by decide +kernel
theorem dL_law__3503 : decode cL_law_ 3503 = .ok (.aload_n 2, 1) := by decide +kernel
theorem dL_law__3504 : decode cL_law_ 3504 = .ok (.aload_n 0, 1) := by decide +kernel
theorem dL_law__3505 : decode cL_law_ 3505 = .ok (.iload 4, 2) := by decide +kernel
theorem dL_law__3507 : decode cL_law_ 3507 = .ok (.iconst 1, 1) := by decide +kernel
theorem dL_law__3508 : decode cL_law_ 3508 = .ok (.iadd, 1) := by decide +kernel
theorem dL_law__3509 : decode cL_law_ 3509 = .ok (.iaload, 1) := by decide +kernel
theorem dL_law__3510 : decode cL_law_ 3510 = .ok (.invokevirtual 373, 3) := by decide +kernel
theorem dL_law__3513 : decode cL_law_ 3513 = .ok (.if_icmp .eq 5, 3) := by decide +kernel
theorem dL_law__3516 : decode cL_law_ 3516 = .ok (.iconst 0, 1) := by decide +kernel
theorem dL_law__3517 : decode cL_law_ 3517 = .ok (.ireturn, 1) := by decide +kernel
theorem dL_law__3518 : decode cL_law_ 3518 = .ok (.iinc 4 6, 3) := by decide +kernel
theorem dL_law__3521 : decode cL_law_ 3521 = .ok (.goto (-3498), 3) := by decide +kernel
theorem dL_law__3524 : decode cL_law_ 3524 = .ok (.iconst 1, 1) := by decide +kernel
theorem dL_law__3525 : decode cL_law_ 3525 = .ok (.ireturn, 1) := by decide +kernel
