theorem dL_law_2160 : decode cL_law 2160 = .ok (.invokestatic 117, 3) := by decide +kernel
theorem dL_law_2163 : decode cL_law 2163 = .ok (.goto 127, 3) := by decide +kernel
theorem dL_law_2166 : decode cL_law 2166 = .ok (.aload_n 2, 1) := by decide +kernel
theorem dL_law_2167 : decode cL_law 2167 = .ok (.bipush 8, 2) := by decide +kernel
theorem dL_law_2169 : decode cL_law 2169 = .ok (.iload 33, 2) := by decide +kernel
theorem dL_law_2171 : decode cL_law 2171 = .ok (.imul, 1) := by decide +kernel
theorem dL_law_2172 : decode cL_law 2172 = .ok (.iconst 3, 1) := by decide +kernel
theorem dL_law_2173 : decode cL_law 2173 = .ok (.iadd, 1) := by decide +kernel
theorem dL_law_2174 : decode cL_law 2174 = .ok (.iaload, 1) := by decide +kernel
theorem dL_law_2175 : decode cL_law 2175 = .ok (.iload 30, 2) := by decide +kernel
theorem dL_law_2177 : decode cL_law 2177 = .ok (.if_icmp .ne 113, 3) := by decide +kernel
theorem dL_law_2180 : decode cL_law 2180 = .ok (.aload_n 2, 1) := by decide +kernel
theorem dL_law_2181 : decode cL_law 2181 = .ok (.bipush 8, 2) := by decide +kernel
theorem dL_law_2183 : decode cL_law 2183 = .ok (.iload 33, 2) := by decide +kernel
theorem dL_law_2185 : decode cL_law 2185 = .ok (.imul, 1) := by decide +kernel
theorem dL_law_2186 : decode cL_law 2186 = .ok (.iconst 3, 1) := by decide +kernel
theorem dL_law_2187 : decode cL_law 2187 = .ok (.iadd, 1) := by decide +kernel
theorem dL_law_2188 : decode cL_law 2188 = .ok (.iconst (-1), 1) := by decide +kernel
theorem dL_law_2189 : decode cL_law 2189 = .ok (.iastore, 1) := by decide +kernel
theorem dL_law_2190 : decode cL_law 2190 = .ok (.aload_n 2, 1) := by decide +kernel
theorem dL_law_2191 : decode cL_law 2191 = .ok (.bipush 8, 2) := by decide +kernel
theorem dL_law_2193 : decode cL_law 2193 = .ok (.iload 33, 2) := by decide +kernel
theorem dL_law_2195 : decode cL_law 2195 = .ok (.imul, 1) := by decide +kernel
theorem dL_law_2196 : decode cL_law 2196 = .ok (.bipush 7, 2) := by decide +kernel
theorem dL_law_2198 : decode cL_law 2198 = .ok (.iadd, 1) := by decide +kernel
theorem dL_law_2199 : decode cL_law 2199 = .ok (.aload_n 2, 1) := by decide +kernel
theorem dL_law_2200 : decode cL_law 2200 = .ok (.bipush 8, 2) := by decide +kernel
theorem dL_law_2202 : decode cL_law 2202 = .ok (.iload 33, 2) := by decide +kernel
theorem dL_law_2204 : decode cL_law 2204 = .ok (.imul, 1) := by decide +kernel
theorem dL_law_2205 : decode cL_law 2205 = .ok (.bipush 6, 2) := by decide +kernel
theorem dL_law_2207 : decode cL_law 2207 = .ok (.iadd, 1) := by decide +kernel
theorem dL_law_2208 : decode cL_law 2208 = .ok (.iaload, 1) := by decide +kernel
theorem dL_law_2209 : decode cL_law 2209 = .ok (.iconst 1, 1) := by decide +kernel
theorem dL_law_2210 : decode cL_law 2210 = .ok (.if_icmp .ne 7, 3) := by decide +kernel
theorem dL_law_2213 : decode cL_law 2213 = .ok (.iconst (-1), 1) := by decide +kernel
theorem dL_law_2214 : decode cL_law 2214 = .ok (.goto 14, 3) := by decide +kernel
theorem dL_law_2217 : decode cL_law 2217 = .ok (.aload_n 3, 1) := by decide +kernel
theorem dL_law_2218 : decode cL_law 2218 = .ok (.aload 4, 2) := by decide +kernel
theorem dL_law_2220 : decode cL_law 2220 = .ok (.iload 18, 2) := by decide +kernel
theorem dL_law_2222 : decode cL_law 2222 = .ok (.iload 33, 2) := by decide +kernel
theorem dL_law_2224 : decode cL_law 2224 = .ok (.iconst (-1), 1) := by decide +kernel
theorem dL_law_2225 : decode cL_law 2225 = .ok (.invokestatic 132, 3) := by decide +kernel
theorem dL_law_2228 : decode cL_law 2228 = .ok (.iastore, 1) := by decide +kernel
theorem dL_law_2229 : decode cL_law 2229 = .ok (.aload 14, 2) := by decide +kernel
theorem dL_law_2231 : decode cL_law 2231 = .ok (.iload 33, 2) := by decide +kernel
theorem dL_law_2233 : decode cL_law 2233 = .ok (.aload_n 2, 1) := by decide +kernel
theorem dL_law_2234 : decode cL_law 2234 = .ok (.bipush 8, 2) := by decide +kernel
theorem dL_law_2236 : decode cL_law 2236 = .ok (.iload 33, 2) := by decide +kernel
theorem dL_law_2238 : decode cL_law 2238 = .ok (.imul, 1) := by decide +kernel
theorem dL_law_2239 : decode cL_law 2239 = .ok (.iconst 4, 1) := by decide +kernel
theorem dL_law_2240 : decode cL_law 2240 = .ok (.iadd, 1) := by decide +kernel
theorem dL_law_2241 : decode cL_law 2241 = .ok (.iaload, 1) := by decide +kernel
theorem dL_law_2242 : decode cL_law 2242 = .ok (.aload_n 2, 1) := by decide +kernel
theorem dL_law_2243 : decode cL_law 2243 = .ok (.bipush 8, 2) := by decide +kernel
theorem dL_law_2245 : decode cL_law 2245 = .ok (.iload 33, 2) := by decide +kernel
theorem dL_law_2247 : decode cL_law 2247 = .ok (.imul, 1) := by decide +kernel
theorem dL_law_2248 : decode cL_law 2248 = .ok (.iaload, 1) := by decide +kernel
theorem dL_law_2249 : decode cL_law 2249 = .ok (.aload 10, 2) := by decide +kernel
theorem dL_law_2251 : decode cL_law 2251 = .ok (.aload_n 2, 1) := by decide +kernel
theorem dL_law_2252 : decode cL_law 2252 = .ok (.bipush 8, 2) := by decide +kernel
theorem dL_law_2254 : decode cL_law 2254 = .ok (.iload 33, 2) := by decide +kernel
theorem dL_law_2256 : decode cL_law 2256 = .ok (.imul, 1) := by decide +kernel
theorem dL_law_2257 : decode cL_law 2257 = .ok (.iconst 1, 1) := by decide +kernel
theorem dL_law_2258 : decode cL_law 2258 = .ok (.iadd, 1) := by decide +kernel
theorem dL_law_2259 : decode cL_law 2259 = .ok (.iaload, 1) := by decide +kernel
theorem dL_law_2260 : decode cL_law 2260 = .ok (.iaload, 1) := by decide +kernel
theorem dL_law_2261 : decode cL_law 2261 = .ok (.imul, 1) := by decide +kernel
theorem dL_law_2262 : decode cL_law 2262 = .ok (.imul, 1) := by decide +kernel
theorem dL_law_2263 : decode cL_law 2263 = .ok (.bipush 100, 2) := by decide +kernel
theorem dL_law_2265 : decode cL_law 2265 = .ok (.idiv, 1) := by decide +kernel
theorem dL_law_2266 : decode cL_law 2266 = .ok (.iastore, 1) := by decide +kernel
theorem dL_law_2267 : decode cL_law 2267 = .ok (.iload 31, 2) := by decide +kernel
theorem dL_law_2269 : decode cL_law 2269 = .ok (.aload_n 2, 1) := by decide +kernel
theorem dL_law_2270 : decode cL_law 2270 = .ok (.bipush 8, 2) := by decide +kernel
theorem dL_law_2272 : decode cL_law 2272 = .ok (.iload 33, 2) := by decide +kernel
theorem dL_law_2274 : decode cL_law 2274 = .ok (.imul, 1) := by decide +kernel
theorem dL_law_2275 : decode cL_law 2275 = .ok (.bipush 7, 2) := by decide +kernel
theorem dL_law_2277 : decode cL_law 2277 = .ok (.iadd, 1) := by decide +kernel
theorem dL_law_2278 : decode cL_law 2278 = .ok (.iaload, 1) := by decide +kernel
theorem dL_law_2279 : decode cL_law 2279 = .ok (.ifCond .ge 7, 3) := by decide +kernel
theorem dL_law_2282 : decode cL_law 2282 = .ok (.iconst 0, 1) := by decide +kernel
theorem dL_law_2283 : decode cL_law 2283 = .ok (.goto 4, 3) := by decide +kernel
theorem dL_law_2286 : decode cL_law 2286 = .ok (.iconst 1, 1) := by decide +kernel
theorem dL_law_2287 : decode cL_law 2287 = .ok (.iadd, 1) := by decide +kernel
theorem dL_law_2288 : decode cL_law 2288 = .ok (.istore 31, 2) := by decide +kernel
theorem dL_law_2290 : decode cL_law 2290 = .ok (.iinc 33 1, 3) := by decide +kernel
theorem dL_law_2293 : decode cL_law 2293 = .ok (.goto (-180), 3) := by decide +kernel
theorem dL_law_2296 : decode cL_law 2296 = .ok (.aload 13, 2) := by decide +kernel
theorem dL_law_2298 : decode cL_law 2298 = .ok (.iload 30, 2) := by decide +kernel
theorem dL_law_2300 : decode cL_law 2300 = .ok (.iconst 2, 1) := by decide +kernel
theorem dL_law_2301 : decode cL_law 2301 = .ok (.iastore, 1) := by decide +kernel
theorem dL_law_2302 : decode cL_law 2302 = .ok (.aload_n 1, 1) := by decide +kernel
theorem dL_law_2303 : decode cL_law 2303 = .ok (.bipush 11, 2) := by decide +kernel
theorem dL_law_2305 : decode cL_law 2305 = .ok (.iload 30, 2) := by decide +kernel
theorem dL_law_2307 : decode cL_law 2307 = .ok (.iconst 0, 1) := by decide +kernel
theorem dL_law_2308 : decode cL_law 2308 = .ok (.iconst 0, 1) := by decide +kernel
theorem dL_law_2309 : decode cL_law 2309 = .ok (.iconst 0, 1) := by decide +kernel
theorem dL_law_2310 : decode cL_law 2310 = .ok (.invokestatic 106, 3) := by decide +kernel
theorem dL_law_2313 : decode cL_law 2313 = .ok (.iload 32, 2) := by decide +kernel
theorem dL_law_2315 : decode cL_law 2315 = .ok (.ifCond .eq 8, 3) := by decide +kernel
theorem dL_law_2318 : decode cL_law 2318 = .ok (.iload 31, 2) := by decide +kernel
theorem dL_law_2320 : decode cL_law 2320 = .ok (.goto 6, 3) := by decide +kernel
theorem dL_law_2323 : decode cL_law 2323 = .ok (.sipush (-1003), 3) := by decide +kernel
theorem dL_law_2326 : decode cL_law 2326 = .ok (.i2l, 1) := by decide +kernel
theorem dL_law_2327 : decode cL_law 2327 = .ok (.lcmp, 1) := by decide +kernel
theorem dL_law_2328 : decode cL_law 2328 = .ok (.ifCond .ne 7, 3) := by decide +kernel
theorem dL_law_2331 : decode cL_law 2331 = .ok (.iconst 1, 1) := by decide +kernel
theorem dL_law_2332 : decode cL_law 2332 = .ok (.goto 4, 3) := by decide +kernel
theorem dL_law_2335 : decode cL_law 2335 = .ok (.iconst 0, 1) := by decide +kernel
theorem dL_law_2336 : decode cL_law 2336 = .ok (.istore 23, 2) := by decide +kernel
theorem dL_law_2338 : decode cL_law 2338 = .ok (.goto 777, 3) := by decide +kernel
theorem dL_law_2341 : decode cL_law 2341 = .ok (.iload 26, 2) := by decide +kernel
theorem dL_law_2343 : decode cL_law 2343 = .ok (.bipush 19, 2) := by decide +kernel
theorem dL_law_2345 : decode cL_law 2345 = .ok (.if_icmp .ne 174, 3) := by decide +kernel
theorem dL_law_2348 : decode cL_law 2348 = .ok (.iload 18, 2) := by decide +kernel
theorem dL_law_2350 : decode cL_law 2350 = .ok (.ifCond .le 169, 3) := by decide +kernel
theorem dL_law_2353 : decode cL_law 2353 = .ok (.aload_n 2, 1) := by decide +kernel
theorem dL_law_2354 : decode cL_law 2354 = .ok (.bipush 8, 2) := by decide +kernel
theorem dL_law_2356 : decode cL_law 2356 = .ok (.aload_n 3, 1) := by decide +kernel
theorem dL_law_2357 : decode cL_law 2357 = .ok (.bipush 24, 2) := by decide +kernel
theorem dL_law_2359 : decode cL_law 2359 = .ok (.iload 29, 2) := by decide +kernel
theorem dL_law_2361 : decode cL_law 2361 = .ok (.iadd, 1) := by decide +kernel
theorem dL_law_2362 : decode cL_law 2362 = .ok (.iaload, 1) := by decide +kernel
theorem dL_law_2363 : decode cL_law 2363 = .ok (.imul, 1) := by decide +kernel
theorem dL_law_2364 : decode cL_law 2364 = .ok (.iconst 5, 1) := by decide +kernel
theorem dL_law_2365 : decode cL_law 2365 = .ok (.iadd, 1) := by decide +kernel
theorem dL_law_2366 : decode cL_law 2366 = .ok (.iaload, 1) := by decide +kernel
theorem dL_law_2367 : decode cL_law 2367 = .ok (.ifCond .lt 7, 3) := by decide +kernel
theorem dL_law_2370 : decode cL_law 2370 = .ok (.iconst 1, 1) := by decide +kernel
theorem dL_law_2371 : decode cL_law 2371 = .ok (.goto 4, 3) := by decide +kernel
theorem dL_law_2374 : decode cL_law 2374 = .ok (.iconst 0, 1) := by decide +kernel
theorem dL_law_2375 : decode cL_law 2375 = .ok (.istore 31, 2) := by decide +kernel
theorem dL_law_2377 : decode cL_law 2377 = .ok (.iload 31, 2) := by decide +kernel
theorem dL_law_2379 : decode cL_law 2379 = .ok (.ifCond .eq 23, 3) := by decide +kernel
theorem dL_law_2382 : decode cL_law 2382 = .ok (.aload 11, 2) := by decide +kernel
theorem dL_law_2384 : decode cL_law 2384 = .ok (.iload 29, 2) := by decide +kernel
theorem dL_law_2386 : decode cL_law 2386 = .ok (.iaload, 1) := by decide +kernel
theorem dL_law_2387 : decode cL_law 2387 = .ok (.ifCond .ge 15, 3) := by decide +kernel
theorem dL_law_2390 : decode cL_law 2390 = .ok (.aload 12, 2) := by decide +kernel
theorem dL_law_2392 : decode cL_law 2392 = .ok (.iload 29, 2) := by decide +kernel
theorem dL_law_2394 : decode cL_law 2394 = .ok (.iaload, 1) := by decide +kernel
theorem dL_law_2395 : decode cL_law 2395 = .ok (.ifCond .ne 7, 3) := by decide +kernel
theorem dL_law_2398 : decode cL_law 2398 = .ok (.iconst 1, 1) := by decide +kernel
theorem dL_law_2399 : decode cL_law 2399 = .ok (.goto 4, 3) := by decide +kernel
theorem dL_law_2402 : decode cL_law 2402 = .ok (.iconst 0, 1) := by decide +kernel
theorem dL_law_2403 : decode cL_law 2403 = .ok (.istore 32, 2) := by decide +kernel
theorem dL_law_2405 : decode cL_law 2405 = .ok (.aload 16, 2) := by decide +kernel
theorem dL_law_2407 : decode cL_law 2407 = .ok (.iload 29, 2) := by decide +kernel
theorem dL_law_2409 : decode cL_law 2409 = .ok (.iload 32, 2) := by decide +kernel
theorem dL_law_2411 : decode cL_law 2411 = .ok (.ifCond .eq 19, 3) := by decide +kernel
theorem dL_law_2414 : decode cL_law 2414 = .ok (.aload 15, 2) := by decide +kernel
theorem dL_law_2416 : decode cL_law 2416 = .ok (.iload 29, 2) := by decide +kernel
theorem dL_law_2418 : decode cL_law 2418 = .ok (.laload, 1) := by decide +kernel
theorem dL_law_2419 : decode cL_law 2419 = .ok (.ldc2_w 136, 3) := by decide +kernel
theorem dL_law_2422 : decode cL_law 2422 = .ok (.lmul, 1) := by decide +kernel
theorem dL_law_2423 : decode cL_law 2423 = .ok (.ldc2_w 82, 3) := by decide +kernel
theorem dL_law_2426 : decode cL_law 2426 = .ok (.ldiv, 1) := by decide +kernel
theorem dL_law_2427 : decode cL_law 2427 = .ok (.goto 8, 3) := by decide +kernel
theorem dL_law_2430 : decode cL_law 2430 = .ok (.aload 16, 2) := by decide +kernel
theorem dL_law_2432 : decode cL_law 2432 = .ok (.iload 29, 2) := by decide +kernel
theorem dL_law_2434 : decode cL_law 2434 = .ok (.laload, 1) := by decide +kernel
theorem dL_law_2435 : decode cL_law 2435 = .ok (.lastore, 1) := by decide +kernel
theorem dL_law_2436 : decode cL_law 2436 = .ok (.aload 17, 2) := by decide +kernel
theorem dL_law_2438 : decode cL_law 2438 = .ok (.iload 29, 2) := by decide +kernel
theorem dL_law_2440 : decode cL_law 2440 = .ok (.dup2, 1) := by decide +kernel
theorem dL_law_2441 : decode cL_law 2441 = .ok (.laload, 1) := by decide +kernel
theorem dL_law_2442 : decode cL_law 2442 = .ok (.iload 32, 2) := by decide +kernel
theorem dL_law_2444 : decode cL_law 2444 = .ok (.ifCond .eq 11, 3) := by decide +kernel
theorem dL_law_2447 : decode cL_law 2447 = .ok (.aload 16, 2) := by decide +kernel
theorem dL_law_2449 : decode cL_law 2449 = .ok (.iload 29, 2) := by decide +kernel
theorem dL_law_2451 : decode cL_law 2451 = .ok (.laload, 1) := by decide +kernel
theorem dL_law_2452 : decode cL_law 2452 = .ok (.goto 4, 3) := by decide +kernel
theorem dL_law_2455 : decode cL_law 2455 = .ok (.lconst 0, 1) := by decide +kernel
theorem dL_law_2456 : decode cL_law 2456 = .ok (.ladd, 1) := by decide +kernel
theorem dL_law_2457 : decode cL_law 2457 = .ok (.lastore, 1) := by decide +kernel
theorem dL_law_2458 : decode cL_law 2458 = .ok (.aload 11, 2) := by decide +kernel
theorem dL_law_2460 : decode cL_law 2460 = .ok (.iload 29, 2) := by decide +kernel
theorem dL_law_2462 : decode cL_law 2462 = .ok (.iload 32, 2) := by decide +kernel
theorem dL_law_2464 : decode cL_law 2464 = .ok (.ifCond .eq 8, 3) := by decide +kernel
theorem dL_law_2467 : decode cL_law 2467 = .ok (.iload 19, 2) := by decide +kernel
theorem dL_law_2469 : decode cL_law 2469 = .ok (.goto 8, 3) := by decide +kernel
theorem dL_law_2472 : decode cL_law 2472 = .ok (.aload 11, 2) := by decide +kernel
theorem dL_law_2474 : decode cL_law 2474 = .ok (.iload 29, 2) := by decide +kernel
theorem dL_law_2476 : decode cL_law 2476 = .ok (.iaload, 1) := by decide +kernel
theorem dL_law_2477 : decode cL_law 2477 = .ok (.iastore, 1) := by decide +kernel
theorem dL_law_2478 : decode cL_law 2478 = .ok (.aload_n 1, 1) := by decide +kernel
theorem dL_law_2479 : decode cL_law 2479 = .ok (.bipush 12, 2) := by decide +kernel
theorem dL_law_2481 : decode cL_law 2481 = .ok (.iload 29, 2) := by decide +kernel
theorem dL_law_2483 : decode cL_law 2483 = .ok (.iconst 0, 1) := by decide +kernel
theorem dL_law_2484 : decode cL_law 2484 = .ok (.iconst 0, 1) := by decide +kernel
theorem dL_law_2485 : decode cL_law 2485 = .ok (.iconst 0, 1) := by decide +kernel
theorem dL_law_2486 : decode cL_law 2486 = .ok (.invokestatic 106, 3) := by decide +kernel
theorem dL_law_2489 : decode cL_law 2489 = .ok (.iload 32, 2) := by decide +kernel
theorem dL_law_2491 : decode cL_law 2491 = .ok (.ifCond .eq 11, 3) := by decide +kernel
theorem dL_law_2494 : decode cL_law 2494 = .ok (.aload 16, 2) := by decide +kernel
theorem dL_law_2496 : decode cL_law 2496 = .ok (.iload 29, 2) := by decide +kernel
theorem dL_law_2498 : decode cL_law 2498 = .ok (.laload, 1) := by decide +kernel
theorem dL_law_2499 : decode cL_law 2499 = .ok (.goto 6, 3) := by decide +kernel
theorem dL_law_2502 : decode cL_law 2502 = .ok (.ldc2_w 78, 3) := by decide +kernel
theorem dL_law_2505 : decode cL_law 2505 = .ok (.lcmp, 1) := by decide +kernel
theorem dL_law_2506 : decode cL_law 2506 = .ok (.ifCond .ne 7, 3) := by decide +kernel
theorem dL_law_2509 : decode cL_law 2509 = .ok (.iconst 1, 1) := by decide +kernel
theorem dL_law_2510 : decode cL_law 2510 = .ok (.goto 4, 3) := by decide +kernel
theorem dL_law_2513 : decode cL_law 2513 = .ok (.iconst 0, 1) := by decide +kernel
theorem dL_law_2514 : decode cL_law 2514 = .ok (.istore 23, 2) := by decide +kernel
theorem dL_law_2516 : decode cL_law 2516 = .ok (.goto 599, 3) := by decide +kernel
theorem dL_law_2519 : decode cL_law 2519 = .ok (.iload 26, 2) := by decide +kernel
theorem dL_law_2521 : decode cL_law 2521 = .ok (.bipush 20, 2) := by decide +kernel
theorem dL_law_2523 : decode cL_law 2523 = .ok (.if_icmp .ne 236, 3) := by decide +kernel
theorem dL_law_2526 : decode cL_law 2526 = .ok (.iload 18, 2) := by decide +kernel
theorem dL_law_2528 : decode cL_law 2528 = .ok (.ifCond .le 231, 3) := by decide +kernel
theorem dL_law_2531 : decode cL_law 2531 = .ok (.aload_n 2, 1) := by decide +kernel
theorem dL_law_2532 : decode cL_law 2532 = .ok (.bipush 8, 2) := by decide +kernel
theorem dL_law_2534 : decode cL_law 2534 = .ok (.aload_n 3, 1) := by decide +kernel
theorem dL_law_2535 : decode cL_law 2535 = .ok (.bipush 24, 2) := by decide +kernel
theorem dL_law_2537 : decode cL_law 2537 = .ok (.iload 29, 2) := by decide +kernel
theorem dL_law_2539 : decode cL_law 2539 = .ok (.iadd, 1) := by decide +kernel
theorem dL_law_2540 : decode cL_law 2540 = .ok (.iaload, 1) := by decide +kernel
theorem dL_law_2541 : decode cL_law 2541 = .ok (.imul, 1) := by decide +kernel
theorem dL_law_2542 : decode cL_law 2542 = .ok (.iconst 5, 1) := by decide +kernel
theorem dL_law_2543 : decode cL_law 2543 = .ok (.iadd, 1) := by decide +kernel
theorem dL_law_2544 : decode cL_law 2544 = .ok (.iaload, 1) := by decide +kernel
theorem dL_law_2545 : decode cL_law 2545 = .ok (.istore 31, 2) := by decide +kernel
theorem dL_law_2547 : decode cL_law 2547 = .ok (.iload 31, 2) := by decide +kernel
theorem dL_law_2549 : decode cL_law 2549 = .ok (.ifCond .lt 15, 3) := by decide +kernel
theorem dL_law_2552 : decode cL_law 2552 = .ok (.aload 12, 2) := by decide +kernel
theorem dL_law_2554 : decode cL_law 2554 = .ok (.iload 29, 2) := by decide +kernel
theorem dL_law_2556 : decode cL_law 2556 = .ok (.iaload, 1) := by decide +kernel
theorem dL_law_2557 : decode cL_law 2557 = .ok (.ifCond .ne 7, 3) := by decide +kernel
theorem dL_law_2560 : decode cL_law 2560 = .ok (.iconst 1, 1) := by decide +kernel
theorem dL_law_2561 : decode cL_law 2561 = .ok (.goto 4, 3) := by decide +kernel
theorem dL_law_2564 : decode cL_law 2564 = .ok (.iconst 0, 1) := by decide +kernel
theorem dL_law_2565 : decode cL_law 2565 = .ok (.istore 32, 2) := by decide +kernel
theorem dL_law_2567 : decode cL_law 2567 = .ok (.aload 15, 2) := by decide +kernel
theorem dL_law_2569 : decode cL_law 2569 = .ok (.iload 29, 2) := by decide +kernel
theorem dL_law_2571 : decode cL_law 2571 = .ok (.laload, 1) := by decide +kernel
theorem dL_law_2572 : decode cL_law 2572 = .ok (.aload 16, 2) := by decide +kernel
theorem dL_law_2574 : decode cL_law 2574 = .ok (.iload 29, 2) := by decide +kernel
theorem dL_law_2576 : decode cL_law 2576 = .ok (.laload, 1) := by decide +kernel
theorem dL_law_2577 : decode cL_law 2577 = .ok (.lsub, 1) := by decide +kernel
theorem dL_law_2578 : decode cL_law 2578 = .ok (.lstore 33, 2) := by decide +kernel
theorem dL_law_2580 : decode cL_law 2580 = .ok (.aload 11, 2) := by decide +kernel
theorem dL_law_2582 : decode cL_law 2582 = .ok (.iload 29, 2) := by decide +kernel
theorem dL_law_2584 : decode cL_law 2584 = .ok (.iaload, 1) := by decide +kernel
theorem dL_law_2585 : decode cL_law 2585 = .ok (.ifCond .ge 32, 3) := by decide +kernel
theorem dL_law_2588 : decode cL_law 2588 = .ok (.aload 15, 2) := by decide +kernel
theorem dL_law_2590 : decode cL_law 2590 = .ok (.iload 29, 2) := by decide +kernel
theorem dL_law_2592 : decode cL_law 2592 = .ok (.laload, 1) := by decide +kernel
theorem dL_law_2593 : decode cL_law 2593 = .ok (.aload 15, 2) := by decide +kernel
theorem dL_law_2595 : decode cL_law 2595 = .ok (.iload 29, 2) := by decide +kernel
theorem dL_law_2597 : decode cL_law 2597 = .ok (.laload, 1) := by decide +kernel
theorem dL_law_2598 : decode cL_law 2598 = .ok (.iload 19, 2) := by decide +kernel
theorem dL_law_2600 : decode cL_law 2600 = .ok (.iload 31, 2) := by decide +kernel
theorem dL_law_2602 : decode cL_law 2602 = .ok (.isub, 1) := by decide +kernel
theorem dL_law_2603 : decode cL_law 2603 = .ok (.i2l, 1) := by decide +kernel
theorem dL_law_2604 : decode cL_law 2604 = .ok (.lmul, 1) := by decide +kernel
theorem dL_law_2605 : decode cL_law 2605 = .ok (.ldc2_w 138, 3) := by decide +kernel
theorem dL_law_2608 : decode cL_law 2608 = .ok (.lmul, 1) := by decide +kernel
theorem dL_law_2609 : decode cL_law 2609 = .ok (.ldc2_w 140, 3) := by decide +kernel
theorem dL_law_2612 : decode cL_law 2612 = .ok (.ldiv, 1) := by decide +kernel
theorem dL_law_2613 : decode cL_law 2613 = .ok (.ladd, 1) := by decide +kernel
theorem dL_law_2614 : decode cL_law 2614 = .ok (.goto 50, 3) := by decide +kernel
theorem dL_law_2617 : decode cL_law 2617 = .ok (.lload 33, 2) := by decide +kernel
theorem dL_law_2619 : decode cL_law 2619 = .ok (.aload 15, 2) := by decide +kernel
theorem dL_law_2621 : decode cL_law 2621 = .ok (.iload 29, 2) := by decide +kernel
theorem dL_law_2623 : decode cL_law 2623 = .ok (.laload, 1) := by decide +kernel
theorem dL_law_2624 : decode cL_law 2624 = .ok (.aload 11, 2) := by decide +kernel
theorem dL_law_2626 : decode cL_law 2626 = .ok (.iload 29, 2) := by decide +kernel
theorem dL_law_2628 : decode cL_law 2628 = .ok (.iaload, 1) := by decide +kernel
theorem dL_law_2629 : decode cL_law 2629 = .ok (.iload 31, 2) := by decide +kernel
theorem dL_law_2631 : decode cL_law 2631 = .ok (.isub, 1) := by decide +kernel
theorem dL_law_2632 : decode cL_law 2632 = .ok (.i2l, 1) := by decide +kernel
theorem dL_law_2633 : decode cL_law 2633 = .ok (.lmul, 1) := by decide +kernel
theorem dL_law_2634 : decode cL_law 2634 = .ok (.ldc2_w 138, 3) := by decide +kernel
theorem dL_law_2637 : decode cL_law 2637 = .ok (.lmul, 1) := by decide +kernel
theorem dL_law_2638 : decode cL_law 2638 = .ok (.ldc2_w 140, 3) := by decide +kernel
theorem dL_law_2641 : decode cL_law 2641 = .ok (.ldiv, 1) := by decide +kernel
theorem dL_law_2642 : decode cL_law 2642 = .ok (.ladd, 1) := by decide +kernel
theorem dL_law_2643 : decode cL_law 2643 = .ok (.lload 33, 2) := by decide +kernel
theorem dL_law_2645 : decode cL_law 2645 = .ok (.iload 19, 2) := by decide +kernel
theorem dL_law_2647 : decode cL_law 2647 = .ok (.aload 11, 2) := by decide +kernel
theorem dL_law_2649 : decode cL_law 2649 = .ok (.iload 29, 2) := by decide +kernel
theorem dL_law_2651 : decode cL_law 2651 = .ok (.iaload, 1) := by decide +kernel
theorem dL_law_2652 : decode cL_law 2652 = .ok (.isub, 1) := by decide +kernel
theorem dL_law_2653 : decode cL_law 2653 = .ok (.i2l, 1) := by decide +kernel
theorem dL_law_2654 : decode cL_law 2654 = .ok (.lmul, 1) := by decide +kernel
theorem dL_law_2655 : decode cL_law 2655 = .ok (.ldc2_w 138, 3) := by decide +kernel
theorem dL_law_2658 : decode cL_law 2658 = .ok (.lmul, 1) := by decide +kernel
theorem dL_law_2659 : decode cL_law 2659 = .ok (.ldc2_w 140, 3) := by decide +kernel
theorem dL_law_2662 : decode cL_law 2662 = .ok (.ldiv, 1) := by decide +kernel
theorem dL_law_2663 : decode cL_law 2663 = .ok (.ladd, 1) := by decide +kernel
theorem dL_law_2664 : decode cL_law 2664 = .ok (.lstore 35, 2) := by decide +kernel
theorem dL_law_2666 : decode cL_law 2666 = .ok (.iload 32, 2) := by decide +kernel
theorem dL_law_2668 : decode cL_law 2668 = .ok (.ifCond .eq 15, 3) := by decide +kernel
theorem dL_law_2671 : decode cL_law 2671 = .ok (.aload_n 1, 1) := by decide +kernel
theorem dL_law_2672 : decode cL_law 2672 = .ok (.iload 29, 2) := by decide +kernel
theorem dL_law_2674 : decode cL_law 2674 = .ok (.invokevirtual 142, 3) := by decide +kernel
theorem dL_law_2677 : decode cL_law 2677 = .ok (.lload 35, 2) := by decide +kernel
theorem dL_law_2679 : decode cL_law 2679 = .ok (.lcmp, 1) := by decide +kernel
theorem dL_law_2680 : decode cL_law 2680 = .ok (.ifCond .ne 35, 3) := by decide +kernel
theorem dL_law_2683 : decode cL_law 2683 = .ok (.aload_n 1, 1) := by decide +kernel
theorem dL_law_2684 : decode cL_law 2684 = .ok (.bipush 13, 2) := by decide +kernel
theorem dL_law_2686 : decode cL_law 2686 = .ok (.iload 29, 2) := by decide +kernel
theorem dL_law_2688 : decode cL_law 2688 = .ok (.iconst 0, 1) := by decide +kernel
theorem dL_law_2689 : decode cL_law 2689 = .ok (.iconst 0, 1) := by decide +kernel
theorem dL_law_2690 : decode cL_law 2690 = .ok (.iconst 0, 1) := by decide +kernel
theorem dL_law_2691 : decode cL_law 2691 = .ok (.invokestatic 106, 3) := by decide +kernel
theorem dL_law_2694 : decode cL_law 2694 = .ok (.iload 32, 2) := by decide +kernel
theorem dL_law_2696 : decode cL_law 2696 = .ok (.ifCond .eq 8, 3) := by decide +kernel
theorem dL_law_2699 : decode cL_law 2699 = .ok (.lload 35, 2) := by decide +kernel
theorem dL_law_2701 : decode cL_law 2701 = .ok (.goto 6, 3) := by decide +kernel
theorem dL_law_2704 : decode cL_law 2704 = .ok (.ldc2_w 78, 3) := by decide +kernel
theorem dL_law_2707 : decode cL_law 2707 = .ok (.lcmp, 1) := by decide +kernel
theorem dL_law_2708 : decode cL_law 2708 = .ok (.ifCond .ne 7, 3) := by decide +kernel
theorem dL_law_2711 : decode cL_law 2711 = .ok (.iconst 1, 1) := by decide +kernel
theorem dL_law_2712 : decode cL_law 2712 = .ok (.goto 4, 3) := by decide +kernel
theorem dL_law_2715 : decode cL_law 2715 = .ok (.iconst 0, 1) := by decide +kernel
theorem dL_law_2716 : decode cL_law 2716 = .ok (.istore 23, 2) := by decide +kernel
theorem dL_law_2718 : decode cL_law 2718 = .ok (.aload 17, 2) := by decide +kernel
theorem dL_law_2720 : decode cL_law 2720 = .ok (.iload 29, 2) := by decide +kernel
theorem dL_law_2722 : decode cL_law 2722 = .ok (.dup2, 1) := by decide +kernel
theorem dL_law_2723 : decode cL_law 2723 = .ok (.laload, 1) := by decide +kernel
theorem dL_law_2724 : decode cL_law 2724 = .ok (.iload 32, 2) := by decide +kernel
theorem dL_law_2726 : decode cL_law 2726 = .ok (.ifCond .eq 8, 3) := by decide +kernel
theorem dL_law_2729 : decode cL_law 2729 = .ok (.lload 35, 2) := by decide +kernel
theorem dL_law_2731 : decode cL_law 2731 = .ok (.goto 4, 3) := by decide +kernel
theorem dL_law_2734 : decode cL_law 2734 = .ok (.lconst 0, 1) := by decide +kernel
theorem dL_law_2735 : decode cL_law 2735 = .ok (.ladd, 1) := by decide +kernel
theorem dL_law_2736 : decode cL_law 2736 = .ok (.lastore, 1) := by decide +kernel
theorem dL_law_2737 : decode cL_law 2737 = .ok (.aload 12, 2) := by decide +kernel
theorem dL_law_2739 : decode cL_law 2739 = .ok (.iload 29, 2) := by decide +kernel
theorem dL_law_2741 : decode cL_law 2741 = .ok (.iload 32, 2) := by decide +kernel
theorem dL_law_2743 : decode cL_law 2743 = .ok (.ifCond .eq 7, 3) := by decide +kernel
theorem dL_law_2746 : decode cL_law 2746 = .ok (.iconst 1, 1) := by decide +kernel
theorem dL_law_2747 : decode cL_law 2747 = .ok (.goto 8, 3) := by decide +kernel
theorem dL_law_2750 : decode cL_law 2750 = .ok (.aload 12, 2) := by decide +kernel
theorem dL_law_2752 : decode cL_law 2752 = .ok (.iload 29, 2) := by decide +kernel
theorem dL_law_2754 : decode cL_law 2754 = .ok (.iaload, 1) := by decide +kernel
theorem dL_law_2755 : decode cL_law 2755 = .ok (.iastore, 1) := by decide +kernel
theorem dL_law_2756 : decode cL_law 2756 = .ok (.goto 359, 3) := by decide +kernel
theorem dL_law_2759 : decode cL_law 2759 = .ok (.iload 26, 2) := by decide +kernel
theorem dL_law_2761 : decode cL_law 2761 = .ok (.bipush 21, 2) := by decide +kernel
theorem dL_law_2763 : decode cL_law 2763 = .ok (.if_icmp .ne 208, 3) := by decide +kernel
theorem dL_law_2766 : decode cL_law 2766 = .ok (.aload_n 2, 1) := by decide +kernel
theorem dL_law_2767 : decode cL_law 2767 = .ok (.iload 28, 2) := by decide +kernel
theorem dL_law_2769 : decode cL_law 2769 = .ok (.bipush 7, 2) := by decide +kernel
theorem dL_law_2771 : decode cL_law 2771 = .ok (.iadd, 1) := by decide +kernel
theorem dL_law_2772 : decode cL_law 2772 = .ok (.iaload, 1) := by decide +kernel
theorem dL_law_2773 : decode cL_law 2773 = .ok (.ifCond .lt 7, 3) := by decide +kernel
theorem dL_law_2776 : decode cL_law 2776 = .ok (.iconst 1, 1) := by decide +kernel
theorem dL_law_2777 : decode cL_law 2777 = .ok (.goto 4, 3) := by decide +kernel
theorem dL_law_2780 : decode cL_law 2780 = .ok (.iconst 0, 1) := by decide +kernel
theorem dL_law_2781 : decode cL_law 2781 = .ok (.istore 31, 2) := by decide +kernel
theorem dL_law_2783 : decode cL_law 2783 = .ok (.aload 14, 2) := by decide +kernel
theorem dL_law_2785 : decode cL_law 2785 = .ok (.iload 27, 2) := by decide +kernel
theorem dL_law_2787 : decode cL_law 2787 = .ok (.iaload, 1) := by decide +kernel
theorem dL_law_2788 : decode cL_law 2788 = .ok (.istore 32, 2) := by decide +kernel
theorem dL_law_2790 : decode cL_law 2790 = .ok (.iload 25, 2) := by decide +kernel
theorem dL_law_2792 : decode cL_law 2792 = .ok (.sipush 512, 3) := by decide +kernel
theorem dL_law_2795 : decode cL_law 2795 = .ok (.idiv, 1) := by decide +kernel
theorem dL_law_2796 : decode cL_law 2796 = .ok (.iconst 3, 1) := by decide +kernel
theorem dL_law_2797 : decode cL_law 2797 = .ok (.invokestatic 91, 3) := by decide +kernel
theorem dL_law_2800 : decode cL_law 2800 = .ok (.ifCond .le 83, 3) := by decide +kernel
theorem dL_law_2803 : decode cL_law 2803 = .ok (.aload_n 2, 1) := by decide +kernel
theorem dL_law_2804 : decode cL_law 2804 = .ok (.iload 28, 2) := by decide +kernel
theorem dL_law_2806 : decode cL_law 2806 = .ok (.bipush 7, 2) := by decide +kernel
theorem dL_law_2808 : decode cL_law 2808 = .ok (.iadd, 1) := by decide +kernel
theorem dL_law_2809 : decode cL_law 2809 = .ok (.iload 31, 2) := by decide +kernel
theorem dL_law_2811 : decode cL_law 2811 = .ok (.ifCond .eq 23, 3) := by decide +kernel
theorem dL_law_2814 : decode cL_law 2814 = .ok (.aload_n 3, 1) := by decide +kernel
theorem dL_law_2815 : decode cL_law 2815 = .ok (.aload 4, 2) := by decide +kernel
theorem dL_law_2817 : decode cL_law 2817 = .ok (.iload 18, 2) := by decide +kernel
theorem dL_law_2819 : decode cL_law 2819 = .ok (.iload 27, 2) := by decide +kernel
theorem dL_law_2821 : decode cL_law 2821 = .ok (.aload_n 2, 1) := by decide +kernel
theorem dL_law_2822 : decode cL_law 2822 = .ok (.iload 28, 2) := by decide +kernel
theorem dL_law_2824 : decode cL_law 2824 = .ok (.bipush 7, 2) := by decide +kernel
theorem dL_law_2826 : decode cL_law 2826 = .ok (.iadd, 1) := by decide +kernel
theorem dL_law_2827 : decode cL_law 2827 = .ok (.iaload, 1) := by decide +kernel
theorem dL_law_2828 : decode cL_law 2828 = .ok (.invokestatic 132, 3) := by decide +kernel
theorem dL_law_2831 : decode cL_law 2831 = .ok (.goto 4, 3) := by decide +kernel
theorem dL_law_2834 : decode cL_law 2834 = .ok (.iconst (-1), 1) := by decide +kernel
theorem dL_law_2835 : decode cL_law 2835 = .ok (.iastore, 1) := by decide +kernel
theorem dL_law_2836 : decode cL_law 2836 = .ok (.aload_n 1, 1) := by decide +kernel
theorem dL_law_2837 : decode cL_law 2837 = .ok (.bipush 14, 2) := by decide +kernel
theorem dL_law_2839 : decode cL_law 2839 = .ok (.iload 27, 2) := by decide +kernel
theorem dL_law_2841 : decode cL_law 2841 = .ok (.invokestatic 95, 3) := by decide +kernel
theorem dL_law_2844 : decode cL_law 2844 = .ok (.iconst 0, 1) := by decide +kernel
theorem dL_law_2845 : decode cL_law 2845 = .ok (.iconst 0, 1) := by decide +kernel
theorem dL_law_2846 : decode cL_law 2846 = .ok (.iconst 0, 1) := by decide +kernel
theorem dL_law_2847 : decode cL_law 2847 = .ok (.invokestatic 106, 3) := by decide +kernel
theorem dL_law_2850 : decode cL_law 2850 = .ok (.iload 31, 2) := by decide +kernel
theorem dL_law_2852 : decode cL_law 2852 = .ok (.ifCond .eq 13, 3) := by decide +kernel
theorem dL_law_2855 : decode cL_law 2855 = .ok (.aload_n 2, 1) := by decide +kernel
theorem dL_law_2856 : decode cL_law 2856 = .ok (.iload 28, 2) := by decide +kernel
theorem dL_law_2858 : decode cL_law 2858 = .ok (.bipush 7, 2) := by decide +kernel
theorem dL_law_2860 : decode cL_law 2860 = .ok (.iadd, 1) := by decide +kernel
theorem dL_law_2861 : decode cL_law 2861 = .ok (.iaload, 1) := by decide +kernel
theorem dL_law_2862 : decode cL_law 2862 = .ok (.goto 6, 3) := by decide +kernel
theorem dL_law_2865 : decode cL_law 2865 = .ok (.sipush (-1003), 3) := by decide +kernel
theorem dL_law_2868 : decode cL_law 2868 = .ok (.i2l, 1) := by decide +kernel
theorem dL_law_2869 : decode cL_law 2869 = .ok (.lcmp, 1) := by decide +kernel
theorem dL_law_2870 : decode cL_law 2870 = .ok (.ifCond .ne 7, 3) := by decide +kernel
theorem dL_law_2873 : decode cL_law 2873 = .ok (.iconst 1, 1) := by decide +kernel
theorem dL_law_2874 : decode cL_law 2874 = .ok (.goto 4, 3) := by decide +kernel
theorem dL_law_2877 : decode cL_law 2877 = .ok (.iconst 0, 1) := by decide +kernel
theorem dL_law_2878 : decode cL_law 2878 = .ok (.istore 23, 2) := by decide +kernel
theorem dL_law_2880 : decode cL_law 2880 = .ok (.goto 88, 3) := by decide +kernel
theorem dL_law_2883 : decode cL_law 2883 = .ok (.aload_n 1, 1) := by decide +kernel
theorem dL_law_2884 : decode cL_law 2884 = .ok (.bipush 15, 2) := by decide +kernel
theorem dL_law_2886 : decode cL_law 2886 = .ok (.iload 27, 2) := by decide +kernel
theorem dL_law_2888 : decode cL_law 2888 = .ok (.invokestatic 95, 3) := by decide +kernel
theorem dL_law_2891 : decode cL_law 2891 = .ok (.iconst 0, 1) := by decide +kernel
theorem dL_law_2892 : decode cL_law 2892 = .ok (.iconst 0, 1) := by decide +kernel
theorem dL_law_2893 : decode cL_law 2893 = .ok (.iconst 0, 1) := by decide +kernel
theorem dL_law_2894 : decode cL_law 2894 = .ok (.invokestatic 106, 3) := by decide +kernel
theorem dL_law_2897 : decode cL_law 2897 = .ok (.iload 31, 2) := by decide +kernel
theorem dL_law_2899 : decode cL_law 2899 = .ok (.ifCond .eq 8, 3) := by decide +kernel
theorem dL_law_2902 : decode cL_law 2902 = .ok (.iload 32, 2) := by decide +kernel
theorem dL_law_2904 : decode cL_law 2904 = .ok (.goto 6, 3) := by decide +kernel
theorem dL_law_2907 : decode cL_law 2907 = .ok (.sipush (-1003), 3) := by decide +kernel
theorem dL_law_2910 : decode cL_law 2910 = .ok (.i2l, 1) := by decide +kernel
theorem dL_law_2911 : decode cL_law 2911 = .ok (.lcmp, 1) := by decide +kernel
theorem dL_law_2912 : decode cL_law 2912 = .ok (.ifCond .ne 7, 3) := by decide +kernel
theorem dL_law_2915 : decode cL_law 2915 = .ok (.iconst 1, 1) := by decide +kernel
theorem dL_law_2916 : decode cL_law 2916 = .ok (.goto 4, 3) := by decide +kernel
theorem dL_law_2919 : decode cL_law 2919 = .ok (.iconst 0, 1) := by decide +kernel
theorem dL_law_2920 : decode cL_law 2920 = .ok (.istore 23, 2) := by decide +kernel
theorem dL_law_2922 : decode cL_law 2922 = .ok (.lload 20, 2) := by decide +kernel
theorem dL_law_2924 : decode cL_law 2924 = .ok (.iload 31, 2) := by decide +kernel
theorem dL_law_2926 : decode cL_law 2926 = .ok (.ifCond .eq 9, 3) := by decide +kernel
theorem dL_law_2929 : decode cL_law 2929 = .ok (.iload 32, 2) := by decide +kernel
theorem dL_law_2931 : decode cL_law 2931 = .ok (.i2l, 1) := by decide +kernel
theorem dL_law_2932 : decode cL_law 2932 = .ok (.goto 4, 3) := by decide +kernel
theorem dL_law_2935 : decode cL_law 2935 = .ok (.lconst 0, 1) := by decide +kernel
theorem dL_law_2936 : decode cL_law 2936 = .ok (.ladd, 1) := by decide +kernel
theorem dL_law_2937 : decode cL_law 2937 = .ok (.lstore 20, 2) := by decide +kernel
theorem dL_law_2939 : decode cL_law 2939 = .ok (.aload_n 2, 1) := by decide +kernel
theorem dL_law_2940 : decode cL_law 2940 = .ok (.iload 28, 2) := by decide +kernel
theorem dL_law_2942 : decode cL_law 2942 = .ok (.iconst 2, 1) := by decide +kernel
theorem dL_law_2943 : decode cL_law 2943 = .ok (.iadd, 1) := by decide +kernel
theorem dL_law_2944 : decode cL_law 2944 = .ok (.iload 31, 2) := by decide +kernel
theorem dL_law_2946 : decode cL_law 2946 = .ok (.ifCond .eq 7, 3) := by decide +kernel
theorem dL_law_2949 : decode cL_law 2949 = .ok (.iconst 2, 1) := by decide +kernel
theorem dL_law_2950 : decode cL_law 2950 = .ok (.goto 9, 3) := by decide +kernel
theorem dL_law_2953 : decode cL_law 2953 = .ok (.aload_n 2, 1) := by decide +kernel
theorem dL_law_2954 : decode cL_law 2954 = .ok (.iload 28, 2) := by decide +kernel
theorem dL_law_2956 : decode cL_law 2956 = .ok (.iconst 2, 1) := by decide +kernel
theorem dL_law_2957 : decode cL_law 2957 = .ok (.iadd, 1) := by decide +kernel
theorem dL_law_2958 : decode cL_law 2958 = .ok (.iaload, 1) := by decide +kernel
theorem dL_law_2959 : decode cL_law 2959 = .ok (.iastore, 1) := by decide +kernel
theorem dL_law_2960 : decode cL_law 2960 = .ok (.aload_n 2, 1) := by decide +kernel
theorem dL_law_2961 : decode cL_law 2961 = .ok (.iload 28, 2) := by decide +kernel
theorem dL_law_2963 : decode cL_law 2963 = .ok (.bipush 7, 2) := by decide +kernel
theorem dL_law_2965 : decode cL_law 2965 = .ok (.iadd, 1) := by decide +kernel
theorem dL_law_2966 : decode cL_law 2966 = .ok (.iconst (-1), 1) := by decide +kernel
theorem dL_law_2967 : decode cL_law 2967 = .ok (.iastore, 1) := by decide +kernel
theorem dL_law_2968 : decode cL_law 2968 = .ok (.goto 147, 3) := by decide +kernel
theorem dL_law_2971 : decode cL_law 2971 = .ok (.iconst 1, 1) := by decide +kernel
theorem dL_law_2972 : decode cL_law 2972 = .ok (.iload 25, 2) := by decide +kernel
theorem dL_law_2974 : decode cL_law 2974 = .ok (.bipush 32, 2) := by decide +kernel
theorem dL_law_2976 : decode cL_law 2976 = .ok (.idiv, 1) := by decide +kernel
theorem dL_law_2977 : decode cL_law 2977 = .ok (.iload 25, 2) := by decide +kernel
theorem dL_law_2979 : decode cL_law 2979 = .ok (.sipush 4096, 3) := by decide +kernel
theorem dL_law_2982 : decode cL_law 2982 = .ok (.idiv, 1) := by decide +kernel
theorem dL_law_2983 : decode cL_law 2983 = .ok (.iconst 3, 1) := by decide +kernel
theorem dL_law_2984 : decode cL_law 2984 = .ok (.invokestatic 91, 3) := by decide +kernel
theorem dL_law_2987 : decode cL_law 2987 = .ok (.ifCond .ne 17, 3) := by decide +kernel
theorem dL_law_2990 : decode cL_law 2990 = .ok (.iload 19, 2) := by decide +kernel
theorem dL_law_2992 : decode cL_law 2992 = .ok (.sipush 19000, 3) := by decide +kernel
theorem dL_law_2995 : decode cL_law 2995 = .ok (.if_icmp .ge 9, 3) := by decide +kernel
theorem dL_law_2998 : decode cL_law 2998 = .ok (.sipush 400, 3) := by decide +kernel
theorem dL_law_3001 : decode cL_law 3001 = .ok (.goto 5, 3) := by decide +kernel
theorem dL_law_3004 : decode cL_law 3004 = .ok (.bipush 25, 2) := by decide +kernel
theorem dL_law_3006 : decode cL_law 3006 = .ok (.invokestatic 91, 3) := by decide +kernel
theorem dL_law_3009 : decode cL_law 3009 = .ok (.iadd, 1) := by decide +kernel
theorem dL_law_3010 : decode cL_law 3010 = .ok (.istore 31, 2) := by decide +kernel
theorem dL_law_3012 : decode cL_law 3012 = .ok (.iload 19, 2) := by decide +kernel
theorem dL_law_3014 : decode cL_law 3014 = .ok (.iload 31, 2) := by decide +kernel
theorem dL_law_3016 : decode cL_law 3016 = .ok (.iadd, 1) := by decide +kernel
theorem dL_law_3017 : decode cL_law 3017 = .ok (.sipush 20000, 3) := by decide +kernel
theorem dL_law_3020 : decode cL_law 3020 = .ok (.if_icmp .gt 28, 3) := by decide +kernel
theorem dL_law_3023 : decode cL_law 3023 = .ok (.iload 19, 2) := by decide +kernel
theorem dL_law_3025 : decode cL_law 3025 = .ok (.iload 31, 2) := by decide +kernel
theorem dL_law_3027 : decode cL_law 3027 = .ok (.iadd, 1) := by decide +kernel
theorem dL_law_3028 : decode cL_law 3028 = .ok (.istore 19, 2) := by decide +kernel
theorem dL_law_3030 : decode cL_law 3030 = .ok (.aload_n 1, 1) := by decide +kernel
theorem dL_law_3031 : decode cL_law 3031 = .ok (.iload 31, 2) := by decide +kernel
theorem dL_law_3033 : decode cL_law 3033 = .ok (.invokevirtual 145, 3) := by decide +kernel
theorem dL_law_3036 : decode cL_law 3036 = .ok (.iload 19, 2) := by decide +kernel
theorem dL_law_3038 : decode cL_law 3038 = .ok (.if_icmp .ne 7, 3) := by decide +kernel
theorem dL_law_3041 : decode cL_law 3041 = .ok (.iconst 1, 1) := by decide +kernel
theorem dL_law_3042 : decode cL_law 3042 = .ok (.goto 4, 3) := by decide +kernel
theorem dL_law_3045 : decode cL_law 3045 = .ok (.iconst 0, 1) := by decide +kernel
theorem dL_law_3046 : decode cL_law 3046 = .ok (.istore 23, 2) := by decide +kernel
theorem dL_law_3048 : decode cL_law 3048 = .ok (.iload 25, 2) := by decide +kernel
theorem dL_law_3050 : decode cL_law 3050 = .ok (.bipush 64, 2) := by decide +kernel
theorem dL_law_3052 : decode cL_law 3052 = .ok (.idiv, 1) := by decide +kernel
theorem dL_law_3053 : decode cL_law 3053 = .ok (.iconst 3, 1) := by decide +kernel
theorem dL_law_3054 : decode cL_law 3054 = .ok (.invokestatic 91, 3) := by decide +kernel
theorem dL_law_3057 : decode cL_law 3057 = .ok (.istore 32, 2) := by decide +kernel
theorem dL_law_3059 : decode cL_law 3059 = .ok (.iload 26, 2) := by decide +kernel
theorem dL_law_3061 : decode cL_law 3061 = .ok (.bipush 22, 2) := by decide +kernel
theorem dL_law_3063 : decode cL_law 3063 = .ok (.if_icmp .ne 52, 3) := by decide +kernel
theorem dL_law_3066 : decode cL_law 3066 = .ok (.iload 25, 2) := by decide +kernel
theorem dL_law_3068 : decode cL_law 3068 = .ok (.sipush 128, 3) := by decide +kernel
theorem dL_law_3071 : decode cL_law 3071 = .ok (.idiv, 1) := by decide +kernel
theorem dL_law_3072 : decode cL_law 3072 = .ok (.sipush 1001, 3) := by decide +kernel
theorem dL_law_3075 : decode cL_law 3075 = .ok (.invokestatic 91, 3) := by decide +kernel
theorem dL_law_3078 : decode cL_law 3078 = .ok (.istore 33, 2) := by decide +kernel
theorem dL_law_3080 : decode cL_law 3080 = .ok (.iload 23, 2) := by decide +kernel
theorem dL_law_3082 : decode cL_law 3082 = .ok (.ifCond .eq 23, 3) := by decide +kernel
theorem dL_law_3085 : decode cL_law 3085 = .ok (.aload_n 1, 1) := by decide +kernel
theorem dL_law_3086 : decode cL_law 3086 = .ok (.iload 32, 2) := by decide +kernel
theorem dL_law_3088 : decode cL_law 3088 = .ok (.iload 33, 2) := by decide +kernel
theorem dL_law_3090 : decode cL_law 3090 = .ok (.invokevirtual 100, 3) := by decide +kernel
theorem dL_law_3093 : decode cL_law 3093 = .ok (.aload 10, 2) := by decide +kernel
theorem dL_law_3095 : decode cL_law 3095 = .ok (.iload 32, 2) := by decide +kernel
theorem dL_law_3097 : decode cL_law 3097 = .ok (.iaload, 1) := by decide +kernel
theorem dL_law_3098 : decode cL_law 3098 = .ok (.if_icmp .ne 7, 3) := by decide +kernel
theorem dL_law_3101 : decode cL_law 3101 = .ok (.iconst 1, 1) := by decide +kernel
theorem dL_law_3102 : decode cL_law 3102 = .ok (.goto 4, 3) := by decide +kernel
theorem dL_law_3105 : decode cL_law 3105 = .ok (.iconst 0, 1) := by decide +kernel
theorem dL_law_3106 : decode cL_law 3106 = .ok (.istore 23, 2) := by decide +kernel
theorem dL_law_3108 : decode cL_law 3108 = .ok (.aload 10, 2) := by decide +kernel
theorem dL_law_3110 : decode cL_law 3110 = .ok (.iload 32, 2) := by decide +kernel
theorem dL_law_3112 : decode cL_law 3112 = .ok (.iload 33, 2) := by decide +kernel
theorem dL_law_3114 : decode cL_law 3114 = .ok (.iastore, 1) := by decide +kernel
theorem dL_law_3115 : decode cL_law 3115 = .ok (.lconst 0, 1) := by decide +kernel
theorem dL_law_3116 : decode cL_law 3116 = .ok (.lstore 31, 2) := by decide +kernel
theorem dL_law_3118 : decode cL_law 3118 = .ok (.lconst 0, 1) := by decide +kernel
theorem dL_law_3119 : decode cL_law 3119 = .ok (.lstore 33, 2) := by decide +kernel
theorem dL_law_3121 : decode cL_law 3121 = .ok (.iconst 0, 1) := by decide +kernel
theorem dL_law_3122 : decode cL_law 3122 = .ok (.istore 35, 2) := by decide +kernel
theorem dL_law_3124 : decode cL_law 3124 = .ok (.iload 35, 2) := by decide +kernel
theorem dL_law_3126 : decode cL_law 3126 = .ok (.iload 18, 2) := by decide +kernel
theorem dL_law_3128 : decode cL_law 3128 = .ok (.if_icmp .ge 134, 3) := by decide +kernel
theorem dL_law_3131 : decode cL_law 3131 = .ok (.lload 31, 2) := by decide +kernel
theorem dL_law_3133 : decode cL_law 3133 = .ok (.aload 15, 2) := by decide +kernel
theorem dL_law_3135 : decode cL_law 3135 = .ok (.iload 35, 2) := by decide +kernel
theorem dL_law_3137 : decode cL_law 3137 = .ok (.laload, 1) := by decide +kernel
theorem dL_law_3138 : decode cL_law 3138 = .ok (.ladd, 1) := by decide +kernel
theorem dL_law_3139 : decode cL_law 3139 = .ok (.lstore 31, 2) := by decide +kernel
theorem dL_law_3141 : decode cL_law 3141 = .ok (.lload 33, 2) := by decide +kernel
theorem dL_law_3143 : decode cL_law 3143 = .ok (.aload 17, 2) := by decide +kernel
theorem dL_law_3145 : decode cL_law 3145 = .ok (.iload 35, 2) := by decide +kernel
theorem dL_law_3147 : decode cL_law 3147 = .ok (.laload, 1) := by decide +kernel
theorem dL_law_3148 : decode cL_law 3148 = .ok (.ladd, 1) := by decide +kernel
theorem dL_law_3149 : decode cL_law 3149 = .ok (.lstore 33, 2) := by decide +kernel
theorem dL_law_3151 : decode cL_law 3151 = .ok (.iload 23, 2) := by decide +kernel
theorem dL_law_3153 : decode cL_law 3153 = .ok (.ifCond .eq 100, 3) := by decide +kernel
theorem dL_law_3156 : decode cL_law 3156 = .ok (.aload_n 1, 1) := by decide +kernel
theorem dL_law_3157 : decode cL_law 3157 = .ok (.iload 35, 2) := by decide +kernel
theorem dL_law_3159 : decode cL_law 3159 = .ok (.bipush 7, 2) := by decide +kernel
theorem dL_law_3161 : decode cL_law 3161 = .ok (.invokevirtual 148, 3) := by decide +kernel
theorem dL_law_3164 : decode cL_law 3164 = .ok (.aload 15, 2) := by decide +kernel
theorem dL_law_3166 : decode cL_law 3166 = .ok (.iload 35, 2) := by decide +kernel
theorem dL_law_3168 : decode cL_law 3168 = .ok (.laload, 1) := by decide +kernel
theorem dL_law_3169 : decode cL_law 3169 = .ok (.lcmp, 1) := by decide +kernel
theorem dL_law_3170 : decode cL_law 3170 = .ok (.ifCond .ne 83, 3) := by decide +kernel
theorem dL_law_3173 : decode cL_law 3173 = .ok (.aload_n 1, 1) := by decide +kernel
theorem dL_law_3174 : decode cL_law 3174 = .ok (.iload 35, 2) := by decide +kernel
theorem dL_law_3176 : decode cL_law 3176 = .ok (.invokevirtual 152, 3) := by decide +kernel
theorem dL_law_3179 : decode cL_law 3179 = .ok (.aload 15, 2) := by decide +kernel
theorem dL_law_3181 : decode cL_law 3181 = .ok (.iload 35, 2) := by decide +kernel
theorem dL_law_3183 : decode cL_law 3183 = .ok (.laload, 1) := by decide +kernel
theorem dL_law_3184 : decode cL_law 3184 = .ok (.lcmp, 1) := by decide +kernel
theorem dL_law_3185 : decode cL_law 3185 = .ok (.ifCond .ne 68, 3) := by decide +kernel
theorem dL_law_3188 : decode cL_law 3188 = .ok (.aload_n 1, 1) := by decide +kernel
theorem dL_law_3189 : decode cL_law 3189 = .ok (.iload 35, 2) := by decide +kernel
theorem dL_law_3191 : decode cL_law 3191 = .ok (.bipush 8, 2) := by decide +kernel
theorem dL_law_3193 : decode cL_law 3193 = .ok (.invokevirtual 148, 3) := by decide +kernel
theorem dL_law_3196 : decode cL_law 3196 = .ok (.aload 17, 2) := by decide +kernel
theorem dL_law_3198 : decode cL_law 3198 = .ok (.iload 35, 2) := by decide +kernel
theorem dL_law_3200 : decode cL_law 3200 = .ok (.laload, 1) := by decide +kernel
theorem dL_law_3201 : decode cL_law 3201 = .ok (.lcmp, 1) := by decide +kernel
theorem dL_law_3202 : decode cL_law 3202 = .ok (.ifCond .ne 51, 3) := by decide +kernel
theorem dL_law_3205 : decode cL_law 3205 = .ok (.aload_n 1, 1) := by decide +kernel
theorem dL_law_3206 : decode cL_law 3206 = .ok (.iload 35, 2) := by decide +kernel
theorem dL_law_3208 : decode cL_law 3208 = .ok (.iconst 5, 1) := by decide +kernel
theorem dL_law_3209 : decode cL_law 3209 = .ok (.invokevirtual 148, 3) := by decide +kernel
theorem dL_law_3212 : decode cL_law 3212 = .ok (.aload 6, 2) := by decide +kernel
theorem dL_law_3214 : decode cL_law 3214 = .ok (.iload 35, 2) := by decide +kernel
theorem dL_law_3216 : decode cL_law 3216 = .ok (.iaload, 1) := by decide +kernel
theorem dL_law_3217 : decode cL_law 3217 = .ok (.i2l, 1) := by decide +kernel
theorem dL_law_3218 : decode cL_law 3218 = .ok (.lcmp, 1) := by decide +kernel
theorem dL_law_3219 : decode cL_law 3219 = .ok (.ifCond .ne 34, 3) := by decide +kernel
theorem dL_law_3222 : decode cL_law 3222 = .ok (.aload_n 1, 1) := by decide +kernel
theorem dL_law_3223 : decode cL_law 3223 = .ok (.iload 35, 2) := by decide +kernel
theorem dL_law_3225 : decode cL_law 3225 = .ok (.bipush 6, 2) := by decide +kernel
theorem dL_law_3227 : decode cL_law 3227 = .ok (.invokevirtual 148, 3) := by decide +kernel
theorem dL_law_3230 : decode cL_law 3230 = .ok (.aload 7, 2) := by decide +kernel
theorem dL_law_3232 : decode cL_law 3232 = .ok (.iload 35, 2) := by decide +kernel
theorem dL_law_3234 : decode cL_law 3234 = .ok (.iaload, 1) := by decide +kernel
theorem dL_law_3235 : decode cL_law 3235 = .ok (.iconst 1, 1) := by decide +kernel
theorem dL_law_3236 : decode cL_law 3236 = .ok (.if_icmp .ne 7, 3) := by decide +kernel
theorem dL_law_3239 : decode cL_law 3239 = .ok (.iconst 1, 1) := by decide +kernel
theorem dL_law_3240 : decode cL_law 3240 = .ok (.goto 4, 3) := by decide +kernel
theorem dL_law_3243 : decode cL_law 3243 = .ok (.iconst 0, 1) := by decide +kernel
theorem dL_law_3244 : decode cL_law 3244 = .ok (.i2l, 1) := by decide +kernel
theorem dL_law_3245 : decode cL_law 3245 = .ok (.lcmp, 1) := by decide +kernel
theorem dL_law_3246 : decode cL_law 3246 = .ok (.ifCond .ne 7, 3) := by decide +kernel
theorem dL_law_3249 : decode cL_law 3249 = .ok (.iconst 1, 1) := by decide +kernel
theorem dL_law_3250 : decode cL_law 3250 = .ok (.goto 4, 3) := by decide +kernel
theorem dL_law_3253 : decode cL_law 3253 = .ok (.iconst 0, 1) := by decide +kernel
theorem dL_law_3254 : decode cL_law 3254 = .ok (.istore 23, 2) := by decide +kernel
theorem dL_law_3256 : decode cL_law 3256 = .ok (.iinc 35 1, 3) := by decide +kernel
theorem dL_law_3259 : decode cL_law 3259 = .ok (.goto (-135), 3) := by decide +kernel
theorem dL_law_3262 : decode cL_law 3262 = .ok (.iconst 0, 1) := by decide +kernel
theorem dL_law_3263 : decode cL_law 3263 = .ok (.istore 35, 2) := by decide +kernel
theorem dL_law_3265 : decode cL_law 3265 = .ok (.iload 35, 2) := by decide +kernel
theorem dL_law_3267 : decode cL_law 3267 = .ok (.iconst 4, 1) := by decide +kernel
theorem dL_law_3268 : decode cL_law 3268 = .ok (.if_icmp .ge 221, 3) := by decide +kernel
theorem dL_law_3271 : decode cL_law 3271 = .ok (.iconst 2, 1) := by decide +kernel
theorem dL_law_3272 : decode cL_law 3272 = .ok (.istore 36, 2) := by decide +kernel
theorem dL_law_3274 : decode cL_law 3274 = .ok (.iload 36, 2) := by decide +kernel
theorem dL_law_3276 : decode cL_law 3276 = .ok (.bipush 8, 2) := by decide +kernel
theorem dL_law_3278 : decode cL_law 3278 = .ok (.if_icmp .ge 45, 3) := by decide +kernel
theorem dL_law_3281 : decode cL_law 3281 = .ok (.iload 23, 2) := by decide +kernel
theorem dL_law_3283 : decode cL_law 3283 = .ok (.ifCond .eq 31, 3) := by decide +kernel
theorem dL_law_3286 : decode cL_law 3286 = .ok (.aload_n 1, 1) := by decide +kernel
theorem dL_law_3287 : decode cL_law 3287 = .ok (.iload 35, 2) := by decide +kernel
theorem dL_law_3289 : decode cL_law 3289 = .ok (.invokestatic 95, 3) := by decide +kernel
theorem dL_law_3292 : decode cL_law 3292 = .ok (.iload 36, 2) := by decide +kernel
theorem dL_law_3294 : decode cL_law 3294 = .ok (.invokevirtual 155, 3) := by decide +kernel
theorem dL_law_3297 : decode cL_law 3297 = .ok (.aload_n 2, 1) := by decide +kernel
theorem dL_law_3298 : decode cL_law 3298 = .ok (.bipush 8, 2) := by decide +kernel
theorem dL_law_3300 : decode cL_law 3300 = .ok (.iload 35, 2) := by decide +kernel
theorem dL_law_3302 : decode cL_law 3302 = .ok (.imul, 1) := by decide +kernel
theorem dL_law_3303 : decode cL_law 3303 = .ok (.iload 36, 2) := by decide +kernel
theorem dL_law_3305 : decode cL_law 3305 = .ok (.iadd, 1) := by decide +kernel
theorem dL_law_3306 : decode cL_law 3306 = .ok (.iaload, 1) := by decide +kernel
theorem dL_law_3307 : decode cL_law 3307 = .ok (.if_icmp .ne 7, 3) := by decide +kernel
theorem dL_law_3310 : decode cL_law 3310 = .ok (.iconst 1, 1) := by decide +kernel
theorem dL_law_3311 : decode cL_law 3311 = .ok (.goto 4, 3) := by decide +kernel
theorem dL_law_3314 : decode cL_law 3314 = .ok (.iconst 0, 1) := by decide +kernel
theorem dL_law_3315 : decode cL_law 3315 = .ok (.istore 23, 2) := by decide +kernel
theorem dL_law_3317 : decode cL_law 3317 = .ok (.iinc 36 1, 3) := by decide +kernel
theorem dL_law_3320 : decode cL_law 3320 = .ok (.goto (-46), 3) := by decide +kernel
theorem dL_law_3323 : decode cL_law 3323 = .ok (.aload_n 2, 1) := by decide +kernel
theorem dL_law_3324 : decode cL_law 3324 = .ok (.bipush 8, 2) := by decide +kernel
theorem dL_law_3326 : decode cL_law 3326 = .ok (.iload 35, 2) := by decide +kernel
theorem dL_law_3328 : decode cL_law 3328 = .ok (.imul, 1) := by decide +kernel
theorem dL_law_3329 : decode cL_law 3329 = .ok (.iaload, 1) := by decide +kernel
theorem dL_law_3330 : decode cL_law 3330 = .ok (.aload 10, 2) := by decide +kernel
theorem dL_law_3332 : decode cL_law 3332 = .ok (.aload_n 2, 1) := by decide +kernel
theorem dL_law_3333 : decode cL_law 3333 = .ok (.bipush 8, 2) := by decide +kernel
theorem dL_law_3335 : decode cL_law 3335 = .ok (.iload 35, 2) := by decide +kernel
theorem dL_law_3337 : decode cL_law 3337 = .ok (.imul, 1) := by decide +kernel
theorem dL_law_3338 : decode cL_law 3338 = .ok (.iconst 1, 1) := by decide +kernel
theorem dL_law_3339 : decode cL_law 3339 = .ok (.iadd, 1) := by decide +kernel
theorem dL_law_3340 : decode cL_law 3340 = .ok (.iaload, 1) := by decide +kernel
theorem dL_law_3341 : decode cL_law 3341 = .ok (.iaload, 1) := by decide +kernel
theorem dL_law_3342 : decode cL_law 3342 = .ok (.imul, 1) := by decide +kernel
theorem dL_law_3343 : decode cL_law 3343 = .ok (.istore 36, 2) := by decide +kernel
theorem dL_law_3345 : decode cL_law 3345 = .ok (.iload 23, 2) := by decide +kernel
theorem dL_law_3347 : decode cL_law 3347 = .ok (.ifCond .eq 133, 3) := by decide +kernel
theorem dL_law_3350 : decode cL_law 3350 = .ok (.aload_n 1, 1) := by decide +kernel
theorem dL_law_3351 : decode cL_law 3351 = .ok (.iload 35, 2) := by decide +kernel
theorem dL_law_3353 : decode cL_law 3353 = .ok (.invokestatic 95, 3) := by decide +kernel
theorem dL_law_3356 : decode cL_law 3356 = .ok (.bipush 8, 2) := by decide +kernel
theorem dL_law_3358 : decode cL_law 3358 = .ok (.invokevirtual 155, 3) := by decide +kernel
theorem dL_law_3361 : decode cL_law 3361 = .ok (.aload_n 2, 1) := by decide +kernel
theorem dL_law_3362 : decode cL_law 3362 = .ok (.bipush 8, 2) := by decide +kernel
theorem dL_law_3364 : decode cL_law 3364 = .ok (.iload 35, 2) := by decide +kernel
theorem dL_law_3366 : decode cL_law 3366 = .ok (.imul, 1) := by decide +kernel
theorem dL_law_3367 : decode cL_law 3367 = .ok (.bipush 7, 2) := by decide +kernel
theorem dL_law_3369 : decode cL_law 3369 = .ok (.iadd, 1) := by decide +kernel
theorem dL_law_3370 : decode cL_law 3370 = .ok (.iaload, 1) := by decide +kernel
theorem dL_law_3371 : decode cL_law 3371 = .ok (.ifCond .ge 7, 3) := by decide +kernel
theorem dL_law_3374 : decode cL_law 3374 = .ok (.iconst 0, 1) := by decide +kernel
theorem dL_law_3375 : decode cL_law 3375 = .ok (.goto 8, 3) := by decide +kernel
theorem dL_law_3378 : decode cL_law 3378 = .ok (.aload 14, 2) := by decide +kernel
theorem dL_law_3380 : decode cL_law 3380 = .ok (.iload 35, 2) := by decide +kernel
theorem dL_law_3382 : decode cL_law 3382 = .ok (.iaload, 1) := by decide +kernel
theorem dL_law_3383 : decode cL_law 3383 = .ok (.if_icmp .ne 97, 3) := by decide +kernel
theorem dL_law_3386 : decode cL_law 3386 = .ok (.aload_n 1, 1) := by decide +kernel
theorem dL_law_3387 : decode cL_law 3387 = .ok (.iload 35, 2) := by decide +kernel
theorem dL_law_3389 : decode cL_law 3389 = .ok (.invokestatic 95, 3) := by decide +kernel
theorem dL_law_3392 : decode cL_law 3392 = .ok (.iload 19, 2) := by decide +kernel
theorem dL_law_3394 : decode cL_law 3394 = .ok (.invokevirtual 158, 3) := by decide +kernel
theorem dL_law_3397 : decode cL_law 3397 = .ok (.iload 36, 2) := by decide +kernel
theorem dL_law_3399 : decode cL_law 3399 = .ok (.if_icmp .ne 81, 3) := by decide +kernel
theorem dL_law_3402 : decode cL_law 3402 = .ok (.aload_n 1, 1) := by decide +kernel
theorem dL_law_3403 : decode cL_law 3403 = .ok (.iload 35, 2) := by decide +kernel
theorem dL_law_3405 : decode cL_law 3405 = .ok (.invokestatic 95, 3) := by decide +kernel
theorem dL_law_3408 : decode cL_law 3408 = .ok (.invokevirtual 161, 3) := by decide +kernel
theorem dL_law_3411 : decode cL_law 3411 = .ok (.aload_n 2, 1) := by decide +kernel
theorem dL_law_3412 : decode cL_law 3412 = .ok (.bipush 8, 2) := by decide +kernel
theorem dL_law_3414 : decode cL_law 3414 = .ok (.iload 35, 2) := by decide +kernel
theorem dL_law_3416 : decode cL_law 3416 = .ok (.imul, 1) := by decide +kernel
theorem dL_law_3417 : decode cL_law 3417 = .ok (.iconst 2, 1) := by decide +kernel
theorem dL_law_3418 : decode cL_law 3418 = .ok (.iadd, 1) := by decide +kernel
theorem dL_law_3419 : decode cL_law 3419 = .ok (.iaload, 1) := by decide +kernel
theorem dL_law_3420 : decode cL_law 3420 = .ok (.ifCond .eq 8, 3) := by decide +kernel
theorem dL_law_3423 : decode cL_law 3423 = .ok (.iload 36, 2) := by decide +kernel
theorem dL_law_3425 : decode cL_law 3425 = .ok (.goto 48, 3) := by decide +kernel
theorem dL_law_3428 : decode cL_law 3428 = .ok (.aload_n 2, 1) := by decide +kernel
theorem dL_law_3429 : decode cL_law 3429 = .ok (.bipush 8, 2) := by decide +kernel
theorem dL_law_3431 : decode cL_law 3431 = .ok (.iload 35, 2) := by decide +kernel
theorem dL_law_3433 : decode cL_law 3433 = .ok (.imul, 1) := by decide +kernel
