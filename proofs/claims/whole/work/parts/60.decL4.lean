theorem dL_law__2118 : decode cL_law_ 2118 = .ok (.invokevirtual 166, 3) := by decide +kernel
theorem dL_law__2121 : decode cL_law_ 2121 = .ok (.iload 5, 2) := by decide +kernel
theorem dL_law__2123 : decode cL_law_ 2123 = .ok (.if_icmp .eq 5, 3) := by decide +kernel
theorem dL_law__2126 : decode cL_law_ 2126 = .ok (.iconst 0, 1) := by decide +kernel
theorem dL_law__2127 : decode cL_law_ 2127 = .ok (.ireturn, 1) := by decide +kernel
theorem dL_law__2128 : decode cL_law_ 2128 = .ok (.iload 5, 2) := by decide +kernel
theorem dL_law__2130 : decode cL_law_ 2130 = .ok (.ifCond .ne 15, 3) := by decide +kernel
theorem dL_law__2133 : decode cL_law_ 2133 = .ok (.aload_n 3, 1) := by decide +kernel
theorem dL_law__2134 : decode cL_law_ 2134 = .ok (.iconst 0, 1) := by decide +kernel
theorem dL_law__2135 : decode cL_law_ 2135 = .ok (.laload, 1) := by decide +kernel
theorem dL_law__2136 : decode cL_law_ 2136 = .ok (.iload 6, 2) := by decide +kernel
theorem dL_law__2138 : decode cL_law_ 2138 = .ok (.i2l, 1) := by decide +kernel
theorem dL_law__2139 : decode cL_law_ 2139 = .ok (.lcmp, 1) := by decide +kernel
theorem dL_law__2140 : decode cL_law_ 2140 = .ok (.ifCond .eq 5, 3) := by decide +kernel
theorem dL_law__2143 : decode cL_law_ 2143 = .ok (.iconst 0, 1) := by decide +kernel
theorem dL_law__2144 : decode cL_law_ 2144 = .ok (.ireturn, 1) := by decide +kernel
theorem dL_law__2145 : decode cL_law_ 2145 = .ok (.goto 1373, 3) := by decide +kernel
theorem dL_law__2148 : decode cL_law_ 2148 = .ok (.aload_n 1, 1) := by decide +kernel
theorem dL_law__2149 : decode cL_law_ 2149 = .ok (.aload_n 0, 1) := by decide +kernel
theorem dL_law__2150 : decode cL_law_ 2150 = .ok (.iload 4, 2) := by decide +kernel
theorem dL_law__2152 : decode cL_law_ 2152 = .ok (.iconst 1, 1) := by decide +kernel
theorem dL_law__2153 : decode cL_law_ 2153 = .ok (.iadd, 1) := by decide +kernel
theorem dL_law__2154 : decode cL_law_ 2154 = .ok (.iaload, 1) := by decide +kernel
theorem dL_law__2155 : decode cL_law_ 2155 = .ok (.ifCond .eq 7, 3) := by decide +kernel
theorem dL_law__2158 : decode cL_law_ 2158 = .ok (.iconst 1, 1) := by decide +kernel
theorem dL_law__2159 : decode cL_law_ 2159 = .ok (.goto 4, 3) := by decide +kernel
theorem dL_law__2162 : decode cL_law_ 2162 = .ok (.iconst 0, 1) := by decide +kernel
theorem dL_law__2163 : decode cL_law_ 2163 = .ok (.invokevirtual 256, 3) := by decide +kernel
theorem dL_law__2166 : decode cL_law_ 2166 = .ok (.aload_n 2, 1) := by decide +kernel
theorem dL_law__2167 : decode cL_law_ 2167 = .ok (.aload_n 0, 1) := by decide +kernel
theorem dL_law__2168 : decode cL_law_ 2168 = .ok (.iload 4, 2) := by decide +kernel
theorem dL_law__2170 : decode cL_law_ 2170 = .ok (.iconst 1, 1) := by decide +kernel
theorem dL_law__2171 : decode cL_law_ 2171 = .ok (.iadd, 1) := by decide +kernel
theorem dL_law__2172 : decode cL_law_ 2172 = .ok (.iaload, 1) := by decide +kernel
theorem dL_law__2173 : decode cL_law_ 2173 = .ok (.ifCond .eq 7, 3) := by decide +kernel
theorem dL_law__2176 : decode cL_law_ 2176 = .ok (.iconst 1, 1) := by decide +kernel
theorem dL_law__2177 : decode cL_law_ 2177 = .ok (.goto 4, 3) := by decide +kernel
theorem dL_law__2180 : decode cL_law_ 2180 = .ok (.iconst 0, 1) := by decide +kernel
theorem dL_law__2181 : decode cL_law_ 2181 = .ok (.invokevirtual 259, 3) := by decide +kernel
theorem dL_law__2184 : decode cL_law_ 2184 = .ok (.if_icmp .eq 1334, 3) := by decide +kernel
theorem dL_law__2187 : decode cL_law_ 2187 = .ok (.iconst 0, 1) := by decide +kernel
theorem dL_law__2188 : decode cL_law_ 2188 = .ok (.ireturn, 1) := by decide +kernel
theorem dL_law__2189 : decode cL_law_ 2189 = .ok (.aload_n 1, 1) := by decide +kernel
theorem dL_law__2190 : decode cL_law_ 2190 = .ok (.aload_n 0, 1) := by decide +kernel
theorem dL_law__2191 : decode cL_law_ 2191 = .ok (.iload 4, 2) := by decide +kernel
theorem dL_law__2193 : decode cL_law_ 2193 = .ok (.iconst 1, 1) := by decide +kernel
theorem dL_law__2194 : decode cL_law_ 2194 = .ok (.iadd, 1) := by decide +kernel
theorem dL_law__2195 : decode cL_law_ 2195 = .ok (.iaload, 1) := by decide +kernel
theorem dL_law__2196 : decode cL_law_ 2196 = .ok (.aload_n 3, 1) := by decide +kernel
theorem dL_law__2197 : decode cL_law_ 2197 = .ok (.invokestatic 260, 3) := by decide +kernel
theorem dL_law__2200 : decode cL_law_ 2200 = .ok (.istore 5, 2) := by decide +kernel
theorem dL_law__2202 : decode cL_law_ 2202 = .ok (.aload_n 2, 1) := by decide +kernel
theorem dL_law__2203 : decode cL_law_ 2203 = .ok (.aload_n 0, 1) := by decide +kernel
theorem dL_law__2204 : decode cL_law_ 2204 = .ok (.iload 4, 2) := by decide +kernel
theorem dL_law__2206 : decode cL_law_ 2206 = .ok (.iconst 1, 1) := by decide +kernel
theorem dL_law__2207 : decode cL_law_ 2207 = .ok (.iadd, 1) := by decide +kernel
theorem dL_law__2208 : decode cL_law_ 2208 = .ok (.iaload, 1) := by decide +kernel
theorem dL_law__2209 : decode cL_law_ 2209 = .ok (.invokevirtual 262, 3) := by decide +kernel
theorem dL_law__2212 : decode cL_law_ 2212 = .ok (.istore 6, 2) := by decide +kernel
theorem dL_law__2214 : decode cL_law_ 2214 = .ok (.aload_n 2, 1) := by decide +kernel
theorem dL_law__2215 : decode cL_law_ 2215 = .ok (.invokevirtual 166, 3) := by decide +kernel
theorem dL_law__2218 : decode cL_law_ 2218 = .ok (.iload 5, 2) := by decide +kernel
theorem dL_law__2220 : decode cL_law_ 2220 = .ok (.if_icmp .eq 5, 3) := by decide +kernel
theorem dL_law__2223 : decode cL_law_ 2223 = .ok (.iconst 0, 1) := by decide +kernel
theorem dL_law__2224 : decode cL_law_ 2224 = .ok (.ireturn, 1) := by decide +kernel
theorem dL_law__2225 : decode cL_law_ 2225 = .ok (.iload 5, 2) := by decide +kernel
theorem dL_law__2227 : decode cL_law_ 2227 = .ok (.ifCond .ne 15, 3) := by decide +kernel
theorem dL_law__2230 : decode cL_law_ 2230 = .ok (.aload_n 3, 1) := by decide +kernel
theorem dL_law__2231 : decode cL_law_ 2231 = .ok (.iconst 0, 1) := by decide +kernel
theorem dL_law__2232 : decode cL_law_ 2232 = .ok (.laload, 1) := by decide +kernel
theorem dL_law__2233 : decode cL_law_ 2233 = .ok (.iload 6, 2) := by decide +kernel
theorem dL_law__2235 : decode cL_law_ 2235 = .ok (.i2l, 1) := by decide +kernel
theorem dL_law__2236 : decode cL_law_ 2236 = .ok (.lcmp, 1) := by decide +kernel
theorem dL_law__2237 : decode cL_law_ 2237 = .ok (.ifCond .eq 5, 3) := by decide +kernel
theorem dL_law__2240 : decode cL_law_ 2240 = .ok (.iconst 0, 1) := by decide +kernel
theorem dL_law__2241 : decode cL_law_ 2241 = .ok (.ireturn, 1) := by decide +kernel
theorem dL_law__2242 : decode cL_law_ 2242 = .ok (.goto 1276, 3) := by decide +kernel
theorem dL_law__2245 : decode cL_law_ 2245 = .ok (.aload_n 1, 1) := by decide +kernel
theorem dL_law__2246 : decode cL_law_ 2246 = .ok (.aload_n 0, 1) := by decide +kernel
theorem dL_law__2247 : decode cL_law_ 2247 = .ok (.iload 4, 2) := by decide +kernel
theorem dL_law__2249 : decode cL_law_ 2249 = .ok (.iconst 1, 1) := by decide +kernel
theorem dL_law__2250 : decode cL_law_ 2250 = .ok (.iadd, 1) := by decide +kernel
theorem dL_law__2251 : decode cL_law_ 2251 = .ok (.iaload, 1) := by decide +kernel
theorem dL_law__2252 : decode cL_law_ 2252 = .ok (.aload_n 3, 1) := by decide +kernel
theorem dL_law__2253 : decode cL_law_ 2253 = .ok (.invokestatic 263, 3) := by decide +kernel
theorem dL_law__2256 : decode cL_law_ 2256 = .ok (.istore 5, 2) := by decide +kernel
theorem dL_law__2258 : decode cL_law_ 2258 = .ok (.aload_n 2, 1) := by decide +kernel
theorem dL_law__2259 : decode cL_law_ 2259 = .ok (.aload_n 0, 1) := by decide +kernel
theorem dL_law__2260 : decode cL_law_ 2260 = .ok (.iload 4, 2) := by decide +kernel
theorem dL_law__2262 : decode cL_law_ 2262 = .ok (.iconst 1, 1) := by decide +kernel
theorem dL_law__2263 : decode cL_law_ 2263 = .ok (.iadd, 1) := by decide +kernel
theorem dL_law__2264 : decode cL_law_ 2264 = .ok (.iaload, 1) := by decide +kernel
theorem dL_law__2265 : decode cL_law_ 2265 = .ok (.invokevirtual 265, 3) := by decide +kernel
theorem dL_law__2268 : decode cL_law_ 2268 = .ok (.istore 6, 2) := by decide +kernel
theorem dL_law__2270 : decode cL_law_ 2270 = .ok (.aload_n 2, 1) := by decide +kernel
theorem dL_law__2271 : decode cL_law_ 2271 = .ok (.invokevirtual 166, 3) := by decide +kernel
theorem dL_law__2274 : decode cL_law_ 2274 = .ok (.iload 5, 2) := by decide +kernel
theorem dL_law__2276 : decode cL_law_ 2276 = .ok (.if_icmp .eq 5, 3) := by decide +kernel
theorem dL_law__2279 : decode cL_law_ 2279 = .ok (.iconst 0, 1) := by decide +kernel
theorem dL_law__2280 : decode cL_law_ 2280 = .ok (.ireturn, 1) := by decide +kernel
theorem dL_law__2281 : decode cL_law_ 2281 = .ok (.iload 5, 2) := by decide +kernel
theorem dL_law__2283 : decode cL_law_ 2283 = .ok (.ifCond .ne 15, 3) := by decide +kernel
theorem dL_law__2286 : decode cL_law_ 2286 = .ok (.aload_n 3, 1) := by decide +kernel
theorem dL_law__2287 : decode cL_law_ 2287 = .ok (.iconst 0, 1) := by decide +kernel
theorem dL_law__2288 : decode cL_law_ 2288 = .ok (.laload, 1) := by decide +kernel
theorem dL_law__2289 : decode cL_law_ 2289 = .ok (.iload 6, 2) := by decide +kernel
theorem dL_law__2291 : decode cL_law_ 2291 = .ok (.i2l, 1) := by decide +kernel
theorem dL_law__2292 : decode cL_law_ 2292 = .ok (.lcmp, 1) := by decide +kernel
theorem dL_law__2293 : decode cL_law_ 2293 = .ok (.ifCond .eq 5, 3) := by decide +kernel
theorem dL_law__2296 : decode cL_law_ 2296 = .ok (.iconst 0, 1) := by decide +kernel
theorem dL_law__2297 : decode cL_law_ 2297 = .ok (.ireturn, 1) := by decide +kernel
theorem dL_law__2298 : decode cL_law_ 2298 = .ok (.goto 1220, 3) := by decide +kernel
theorem dL_law__2301 : decode cL_law_ 2301 = .ok (.aload_n 1, 1) := by decide +kernel
theorem dL_law__2302 : decode cL_law_ 2302 = .ok (.invokevirtual 266, 3) := by decide +kernel
theorem dL_law__2305 : decode cL_law_ 2305 = .ok (.aload_n 2, 1) := by decide +kernel
theorem dL_law__2306 : decode cL_law_ 2306 = .ok (.invokevirtual 269, 3) := by decide +kernel
theorem dL_law__2309 : decode cL_law_ 2309 = .ok (.if_icmp .eq 1209, 3) := by decide +kernel
theorem dL_law__2312 : decode cL_law_ 2312 = .ok (.iconst 0, 1) := by decide +kernel
theorem dL_law__2313 : decode cL_law_ 2313 = .ok (.ireturn, 1) := by decide +kernel
theorem dL_law__2314 : decode cL_law_ 2314 = .ok (.aload_n 1, 1) := by decide +kernel
theorem dL_law__2315 : decode cL_law_ 2315 = .ok (.aload_n 0, 1) := by decide +kernel
theorem dL_law__2316 : decode cL_law_ 2316 = .ok (.iload 4, 2) := by decide +kernel
theorem dL_law__2318 : decode cL_law_ 2318 = .ok (.iconst 1, 1) := by decide +kernel
theorem dL_law__2319 : decode cL_law_ 2319 = .ok (.iadd, 1) := by decide +kernel
theorem dL_law__2320 : decode cL_law_ 2320 = .ok (.iaload, 1) := by decide +kernel
theorem dL_law__2321 : decode cL_law_ 2321 = .ok (.aload_n 0, 1) := by decide +kernel
theorem dL_law__2322 : decode cL_law_ 2322 = .ok (.iload 4, 2) := by decide +kernel
theorem dL_law__2324 : decode cL_law_ 2324 = .ok (.iconst 2, 1) := by decide +kernel
theorem dL_law__2325 : decode cL_law_ 2325 = .ok (.iadd, 1) := by decide +kernel
theorem dL_law__2326 : decode cL_law_ 2326 = .ok (.iaload, 1) := by decide +kernel
theorem dL_law__2327 : decode cL_law_ 2327 = .ok (.aload_n 3, 1) := by decide +kernel
theorem dL_law__2328 : decode cL_law_ 2328 = .ok (.invokestatic 270, 3) := by decide +kernel
theorem dL_law__2331 : decode cL_law_ 2331 = .ok (.istore 5, 2) := by decide +kernel
theorem dL_law__2333 : decode cL_law_ 2333 = .ok (.aload_n 2, 1) := by decide +kernel
theorem dL_law__2334 : decode cL_law_ 2334 = .ok (.aload_n 0, 1) := by decide +kernel
theorem dL_law__2335 : decode cL_law_ 2335 = .ok (.iload 4, 2) := by decide +kernel
theorem dL_law__2337 : decode cL_law_ 2337 = .ok (.iconst 1, 1) := by decide +kernel
theorem dL_law__2338 : decode cL_law_ 2338 = .ok (.iadd, 1) := by decide +kernel
theorem dL_law__2339 : decode cL_law_ 2339 = .ok (.iaload, 1) := by decide +kernel
theorem dL_law__2340 : decode cL_law_ 2340 = .ok (.aload_n 0, 1) := by decide +kernel
theorem dL_law__2341 : decode cL_law_ 2341 = .ok (.iload 4, 2) := by decide +kernel
theorem dL_law__2343 : decode cL_law_ 2343 = .ok (.iconst 2, 1) := by decide +kernel
theorem dL_law__2344 : decode cL_law_ 2344 = .ok (.iadd, 1) := by decide +kernel
theorem dL_law__2345 : decode cL_law_ 2345 = .ok (.iaload, 1) := by decide +kernel
theorem dL_law__2346 : decode cL_law_ 2346 = .ok (.invokevirtual 272, 3) := by decide +kernel
theorem dL_law__2349 : decode cL_law_ 2349 = .ok (.istore 6, 2) := by decide +kernel
theorem dL_law__2351 : decode cL_law_ 2351 = .ok (.aload_n 2, 1) := by decide +kernel
theorem dL_law__2352 : decode cL_law_ 2352 = .ok (.invokevirtual 166, 3) := by decide +kernel
theorem dL_law__2355 : decode cL_law_ 2355 = .ok (.iload 5, 2) := by decide +kernel
theorem dL_law__2357 : decode cL_law_ 2357 = .ok (.if_icmp .eq 5, 3) := by decide +kernel
theorem dL_law__2360 : decode cL_law_ 2360 = .ok (.iconst 0, 1) := by decide +kernel
theorem dL_law__2361 : decode cL_law_ 2361 = .ok (.ireturn, 1) := by decide +kernel
theorem dL_law__2362 : decode cL_law_ 2362 = .ok (.iload 5, 2) := by decide +kernel
theorem dL_law__2364 : decode cL_law_ 2364 = .ok (.ifCond .ne 15, 3) := by decide +kernel
theorem dL_law__2367 : decode cL_law_ 2367 = .ok (.aload_n 3, 1) := by decide +kernel
theorem dL_law__2368 : decode cL_law_ 2368 = .ok (.iconst 0, 1) := by decide +kernel
theorem dL_law__2369 : decode cL_law_ 2369 = .ok (.laload, 1) := by decide +kernel
theorem dL_law__2370 : decode cL_law_ 2370 = .ok (.iload 6, 2) := by decide +kernel
theorem dL_law__2372 : decode cL_law_ 2372 = .ok (.i2l, 1) := by decide +kernel
theorem dL_law__2373 : decode cL_law_ 2373 = .ok (.lcmp, 1) := by decide +kernel
theorem dL_law__2374 : decode cL_law_ 2374 = .ok (.ifCond .eq 5, 3) := by decide +kernel
theorem dL_law__2377 : decode cL_law_ 2377 = .ok (.iconst 0, 1) := by decide +kernel
theorem dL_law__2378 : decode cL_law_ 2378 = .ok (.ireturn, 1) := by decide +kernel
theorem dL_law__2379 : decode cL_law_ 2379 = .ok (.goto 1139, 3) := by decide +kernel
theorem dL_law__2382 : decode cL_law_ 2382 = .ok (.aload_n 1, 1) := by decide +kernel
theorem dL_law__2383 : decode cL_law_ 2383 = .ok (.invokevirtual 273, 3) := by decide +kernel
theorem dL_law__2386 : decode cL_law_ 2386 = .ok (.aload_n 2, 1) := by decide +kernel
theorem dL_law__2387 : decode cL_law_ 2387 = .ok (.invokevirtual 276, 3) := by decide +kernel
theorem dL_law__2390 : decode cL_law_ 2390 = .ok (.if_icmp .eq 1128, 3) := by decide +kernel
theorem dL_law__2393 : decode cL_law_ 2393 = .ok (.iconst 0, 1) := by decide +kernel
theorem dL_law__2394 : decode cL_law_ 2394 = .ok (.ireturn, 1) := by decide +kernel
theorem dL_law__2395 : decode cL_law_ 2395 = .ok (.aload_n 1, 1) := by decide +kernel
theorem dL_law__2396 : decode cL_law_ 2396 = .ok (.aload_n 0, 1) := by decide +kernel
theorem dL_law__2397 : decode cL_law_ 2397 = .ok (.iload 4, 2) := by decide +kernel
theorem dL_law__2399 : decode cL_law_ 2399 = .ok (.iconst 1, 1) := by decide +kernel
theorem dL_law__2400 : decode cL_law_ 2400 = .ok (.iadd, 1) := by decide +kernel
theorem dL_law__2401 : decode cL_law_ 2401 = .ok (.iaload, 1) := by decide +kernel
theorem dL_law__2402 : decode cL_law_ 2402 = .ok (.aload_n 3, 1) := by decide +kernel
theorem dL_law__2403 : decode cL_law_ 2403 = .ok (.invokestatic 277, 3) := by decide +kernel
theorem dL_law__2406 : decode cL_law_ 2406 = .ok (.istore 5, 2) := by decide +kernel
theorem dL_law__2408 : decode cL_law_ 2408 = .ok (.aload_n 2, 1) := by decide +kernel
theorem dL_law__2409 : decode cL_law_ 2409 = .ok (.aload_n 0, 1) := by decide +kernel
theorem dL_law__2410 : decode cL_law_ 2410 = .ok (.iload 4, 2) := by decide +kernel
theorem dL_law__2412 : decode cL_law_ 2412 = .ok (.iconst 1, 1) := by decide +kernel
theorem dL_law__2413 : decode cL_law_ 2413 = .ok (.iadd, 1) := by decide +kernel
theorem dL_law__2414 : decode cL_law_ 2414 = .ok (.iaload, 1) := by decide +kernel
theorem dL_law__2415 : decode cL_law_ 2415 = .ok (.invokevirtual 279, 3) := by decide +kernel
theorem dL_law__2418 : decode cL_law_ 2418 = .ok (.istore 6, 2) := by decide +kernel
theorem dL_law__2420 : decode cL_law_ 2420 = .ok (.aload_n 2, 1) := by decide +kernel
theorem dL_law__2421 : decode cL_law_ 2421 = .ok (.invokevirtual 166, 3) := by decide +kernel
theorem dL_law__2424 : decode cL_law_ 2424 = .ok (.iload 5, 2) := by decide +kernel
theorem dL_law__2426 : decode cL_law_ 2426 = .ok (.if_icmp .eq 5, 3) := by decide +kernel
theorem dL_law__2429 : decode cL_law_ 2429 = .ok (.iconst 0, 1) := by decide +kernel
theorem dL_law__2430 : decode cL_law_ 2430 = .ok (.ireturn, 1) := by decide +kernel
theorem dL_law__2431 : decode cL_law_ 2431 = .ok (.iload 5, 2) := by decide +kernel
theorem dL_law__2433 : decode cL_law_ 2433 = .ok (.ifCond .ne 22, 3) := by decide +kernel
theorem dL_law__2436 : decode cL_law_ 2436 = .ok (.aload_n 3, 1) := by decide +kernel
theorem dL_law__2437 : decode cL_law_ 2437 = .ok (.iconst 0, 1) := by decide +kernel
theorem dL_law__2438 : decode cL_law_ 2438 = .ok (.laload, 1) := by decide +kernel
theorem dL_law__2439 : decode cL_law_ 2439 = .ok (.iload 6, 2) := by decide +kernel
theorem dL_law__2441 : decode cL_law_ 2441 = .ok (.ifCond .eq 7, 3) := by decide +kernel
theorem dL_law__2444 : decode cL_law_ 2444 = .ok (.lconst 1, 1) := by decide +kernel
theorem dL_law__2445 : decode cL_law_ 2445 = .ok (.goto 4, 3) := by decide +kernel
theorem dL_law__2448 : decode cL_law_ 2448 = .ok (.lconst 0, 1) := by decide +kernel
theorem dL_law__2449 : decode cL_law_ 2449 = .ok (.lcmp, 1) := by decide +kernel
theorem dL_law__2450 : decode cL_law_ 2450 = .ok (.ifCond .eq 5, 3) := by decide +kernel
theorem dL_law__2453 : decode cL_law_ 2453 = .ok (.iconst 0, 1) := by decide +kernel
theorem dL_law__2454 : decode cL_law_ 2454 = .ok (.ireturn, 1) := by decide +kernel
theorem dL_law__2455 : decode cL_law_ 2455 = .ok (.goto 1063, 3) := by decide +kernel
theorem dL_law__2458 : decode cL_law_ 2458 = .ok (.aload_n 1, 1) := by decide +kernel
theorem dL_law__2459 : decode cL_law_ 2459 = .ok (.invokevirtual 280, 3) := by decide +kernel
theorem dL_law__2462 : decode cL_law_ 2462 = .ok (.aload_n 2, 1) := by decide +kernel
theorem dL_law__2463 : decode cL_law_ 2463 = .ok (.invokevirtual 283, 3) := by decide +kernel
theorem dL_law__2466 : decode cL_law_ 2466 = .ok (.if_icmp .eq 1052, 3) := by decide +kernel
theorem dL_law__2469 : decode cL_law_ 2469 = .ok (.iconst 0, 1) := by decide +kernel
theorem dL_law__2470 : decode cL_law_ 2470 = .ok (.ireturn, 1) := by decide +kernel
theorem dL_law__2471 : decode cL_law_ 2471 = .ok (.aload_n 1, 1) := by decide +kernel
theorem dL_law__2472 : decode cL_law_ 2472 = .ok (.aload_n 0, 1) := by decide +kernel
theorem dL_law__2473 : decode cL_law_ 2473 = .ok (.iload 4, 2) := by decide +kernel
theorem dL_law__2475 : decode cL_law_ 2475 = .ok (.iconst 1, 1) := by decide +kernel
theorem dL_law__2476 : decode cL_law_ 2476 = .ok (.iadd, 1) := by decide +kernel
theorem dL_law__2477 : decode cL_law_ 2477 = .ok (.iaload, 1) := by decide +kernel
theorem dL_law__2478 : decode cL_law_ 2478 = .ok (.aload_n 0, 1) := by decide +kernel
theorem dL_law__2479 : decode cL_law_ 2479 = .ok (.iload 4, 2) := by decide +kernel
theorem dL_law__2481 : decode cL_law_ 2481 = .ok (.iconst 2, 1) := by decide +kernel
theorem dL_law__2482 : decode cL_law_ 2482 = .ok (.iadd, 1) := by decide +kernel
theorem dL_law__2483 : decode cL_law_ 2483 = .ok (.iaload, 1) := by decide +kernel
theorem dL_law__2484 : decode cL_law_ 2484 = .ok (.aload_n 3, 1) := by decide +kernel
theorem dL_law__2485 : decode cL_law_ 2485 = .ok (.invokestatic 284, 3) := by decide +kernel
theorem dL_law__2488 : decode cL_law_ 2488 = .ok (.istore 5, 2) := by decide +kernel
theorem dL_law__2490 : decode cL_law_ 2490 = .ok (.aload_n 2, 1) := by decide +kernel
theorem dL_law__2491 : decode cL_law_ 2491 = .ok (.aload_n 0, 1) := by decide +kernel
theorem dL_law__2492 : decode cL_law_ 2492 = .ok (.iload 4, 2) := by decide +kernel
theorem dL_law__2494 : decode cL_law_ 2494 = .ok (.iconst 1, 1) := by decide +kernel
theorem dL_law__2495 : decode cL_law_ 2495 = .ok (.iadd, 1) := by decide +kernel
theorem dL_law__2496 : decode cL_law_ 2496 = .ok (.iaload, 1) := by decide +kernel
theorem dL_law__2497 : decode cL_law_ 2497 = .ok (.aload_n 0, 1) := by decide +kernel
theorem dL_law__2498 : decode cL_law_ 2498 = .ok (.iload 4, 2) := by decide +kernel
theorem dL_law__2500 : decode cL_law_ 2500 = .ok (.iconst 2, 1) := by decide +kernel
theorem dL_law__2501 : decode cL_law_ 2501 = .ok (.iadd, 1) := by decide +kernel
theorem dL_law__2502 : decode cL_law_ 2502 = .ok (.iaload, 1) := by decide +kernel
theorem dL_law__2503 : decode cL_law_ 2503 = .ok (.invokevirtual 286, 3) := by decide +kernel
theorem dL_law__2506 : decode cL_law_ 2506 = .ok (.istore 6, 2) := by decide +kernel
theorem dL_law__2508 : decode cL_law_ 2508 = .ok (.aload_n 2, 1) := by decide +kernel
theorem dL_law__2509 : decode cL_law_ 2509 = .ok (.invokevirtual 166, 3) := by decide +kernel
theorem dL_law__2512 : decode cL_law_ 2512 = .ok (.iload 5, 2) := by decide +kernel
theorem dL_law__2514 : decode cL_law_ 2514 = .ok (.if_icmp .eq 5, 3) := by decide +kernel
theorem dL_law__2517 : decode cL_law_ 2517 = .ok (.iconst 0, 1) := by decide +kernel
theorem dL_law__2518 : decode cL_law_ 2518 = .ok (.ireturn, 1) := by decide +kernel
theorem dL_law__2519 : decode cL_law_ 2519 = .ok (.iload 5, 2) := by decide +kernel
theorem dL_law__2521 : decode cL_law_ 2521 = .ok (.ifCond .ne 15, 3) := by decide +kernel
theorem dL_law__2524 : decode cL_law_ 2524 = .ok (.aload_n 3, 1) := by decide +kernel
theorem dL_law__2525 : decode cL_law_ 2525 = .ok (.iconst 0, 1) := by decide +kernel
theorem dL_law__2526 : decode cL_law_ 2526 = .ok (.laload, 1) := by decide +kernel
theorem dL_law__2527 : decode cL_law_ 2527 = .ok (.iload 6, 2) := by decide +kernel
theorem dL_law__2529 : decode cL_law_ 2529 = .ok (.i2l, 1) := by decide +kernel
theorem dL_law__2530 : decode cL_law_ 2530 = .ok (.lcmp, 1) := by decide +kernel
theorem dL_law__2531 : decode cL_law_ 2531 = .ok (.ifCond .eq 5, 3) := by decide +kernel
theorem dL_law__2534 : decode cL_law_ 2534 = .ok (.iconst 0, 1) := by decide +kernel
theorem dL_law__2535 : decode cL_law_ 2535 = .ok (.ireturn, 1) := by decide +kernel
theorem dL_law__2536 : decode cL_law_ 2536 = .ok (.goto 982, 3) := by decide +kernel
theorem dL_law__2539 : decode cL_law_ 2539 = .ok (.aload_n 1, 1) := by decide +kernel
theorem dL_law__2540 : decode cL_law_ 2540 = .ok (.aload_n 0, 1) := by decide +kernel
theorem dL_law__2541 : decode cL_law_ 2541 = .ok (.iload 4, 2) := by decide +kernel
theorem dL_law__2543 : decode cL_law_ 2543 = .ok (.iconst 1, 1) := by decide +kernel
theorem dL_law__2544 : decode cL_law_ 2544 = .ok (.iadd, 1) := by decide +kernel
theorem dL_law__2545 : decode cL_law_ 2545 = .ok (.iaload, 1) := by decide +kernel
theorem dL_law__2546 : decode cL_law_ 2546 = .ok (.aload_n 3, 1) := by decide +kernel
theorem dL_law__2547 : decode cL_law_ 2547 = .ok (.invokestatic 287, 3) := by decide +kernel
theorem dL_law__2550 : decode cL_law_ 2550 = .ok (.istore 5, 2) := by decide +kernel
theorem dL_law__2552 : decode cL_law_ 2552 = .ok (.aload_n 2, 1) := by decide +kernel
theorem dL_law__2553 : decode cL_law_ 2553 = .ok (.aload_n 0, 1) := by decide +kernel
theorem dL_law__2554 : decode cL_law_ 2554 = .ok (.iload 4, 2) := by decide +kernel
theorem dL_law__2556 : decode cL_law_ 2556 = .ok (.iconst 1, 1) := by decide +kernel
theorem dL_law__2557 : decode cL_law_ 2557 = .ok (.iadd, 1) := by decide +kernel
theorem dL_law__2558 : decode cL_law_ 2558 = .ok (.iaload, 1) := by decide +kernel
theorem dL_law__2559 : decode cL_law_ 2559 = .ok (.invokevirtual 289, 3) := by decide +kernel
theorem dL_law__2562 : decode cL_law_ 2562 = .ok (.istore 6, 2) := by decide +kernel
theorem dL_law__2564 : decode cL_law_ 2564 = .ok (.aload_n 2, 1) := by decide +kernel
theorem dL_law__2565 : decode cL_law_ 2565 = .ok (.invokevirtual 166, 3) := by decide +kernel
theorem dL_law__2568 : decode cL_law_ 2568 = .ok (.iload 5, 2) := by decide +kernel
theorem dL_law__2570 : decode cL_law_ 2570 = .ok (.if_icmp .eq 5, 3) := by decide +kernel
theorem dL_law__2573 : decode cL_law_ 2573 = .ok (.iconst 0, 1) := by decide +kernel
theorem dL_law__2574 : decode cL_law_ 2574 = .ok (.ireturn, 1) := by decide +kernel
theorem dL_law__2575 : decode cL_law_ 2575 = .ok (.iload 5, 2) := by decide +kernel
theorem dL_law__2577 : decode cL_law_ 2577 = .ok (.ifCond .ne 15, 3) := by decide +kernel
theorem dL_law__2580 : decode cL_law_ 2580 = .ok (.aload_n 3, 1) := by decide +kernel
theorem dL_law__2581 : decode cL_law_ 2581 = .ok (.iconst 0, 1) := by decide +kernel
theorem dL_law__2582 : decode cL_law_ 2582 = .ok (.laload, 1) := by decide +kernel
theorem dL_law__2583 : decode cL_law_ 2583 = .ok (.iload 6, 2) := by decide +kernel
theorem dL_law__2585 : decode cL_law_ 2585 = .ok (.i2l, 1) := by decide +kernel
theorem dL_law__2586 : decode cL_law_ 2586 = .ok (.lcmp, 1) := by decide +kernel
theorem dL_law__2587 : decode cL_law_ 2587 = .ok (.ifCond .eq 5, 3) := by decide +kernel
theorem dL_law__2590 : decode cL_law_ 2590 = .ok (.iconst 0, 1) := by decide +kernel
theorem dL_law__2591 : decode cL_law_ 2591 = .ok (.ireturn, 1) := by decide +kernel
theorem dL_law__2592 : decode cL_law_ 2592 = .ok (.goto 926, 3) := by decide +kernel
theorem dL_law__2595 : decode cL_law_ 2595 = .ok (.aload_n 1, 1) := by decide +kernel
theorem dL_law__2596 : decode cL_law_ 2596 = .ok (.aload_n 0, 1) := by decide +kernel
theorem dL_law__2597 : decode cL_law_ 2597 = .ok (.iload 4, 2) := by decide +kernel
theorem dL_law__2599 : decode cL_law_ 2599 = .ok (.iconst 1, 1) := by decide +kernel
