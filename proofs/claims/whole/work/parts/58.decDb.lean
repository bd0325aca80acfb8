theorem dL_law_2091 : decode cL_law 2091 = .ok (.iadd, 1) := by decide +kernel
theorem dL_law_2092 : decode cL_law 2092 = .ok (.iaload, 1) := by decide +kernel
theorem dL_law_2093 : decode cL_law 2093 = .ok (.aload_n 3, 1) := by decide +kernel
theorem dL_law_2094 : decode cL_law 2094 = .ok (.invokestatic 315, 3) := by decide +kernel
theorem dL_law_2097 : decode cL_law 2097 = .ok (.istore 6, 2) := by decide +kernel
theorem dL_law_2099 : decode cL_law 2099 = .ok (.aload_n 2, 1) := by decide +kernel
theorem dL_law_2100 : decode cL_law 2100 = .ok (.aload_n 0, 1) := by decide +kernel
theorem dL_law_2101 : decode cL_law 2101 = .ok (.iload 5, 2) := by decide +kernel
theorem dL_law_2103 : decode cL_law 2103 = .ok (.iconst 1, 1) := by decide +kernel
theorem dL_law_2104 : decode cL_law 2104 = .ok (.iadd, 1) := by decide +kernel
theorem dL_law_2105 : decode cL_law 2105 = .ok (.iaload, 1) := by decide +kernel
theorem dL_law_2106 : decode cL_law 2106 = .ok (.aload_n 0, 1) := by decide +kernel
theorem dL_law_2107 : decode cL_law 2107 = .ok (.iload 5, 2) := by decide +kernel
theorem dL_law_2109 : decode cL_law 2109 = .ok (.iconst 2, 1) := by decide +kernel
theorem dL_law_2110 : decode cL_law 2110 = .ok (.iadd, 1) := by decide +kernel
theorem dL_law_2111 : decode cL_law 2111 = .ok (.iaload, 1) := by decide +kernel
theorem dL_law_2112 : decode cL_law 2112 = .ok (.aload_n 0, 1) := by decide +kernel
theorem dL_law_2113 : decode cL_law 2113 = .ok (.iload 5, 2) := by decide +kernel
theorem dL_law_2115 : decode cL_law 2115 = .ok (.iconst 3, 1) := by decide +kernel
theorem dL_law_2116 : decode cL_law 2116 = .ok (.iadd, 1) := by decide +kernel
theorem dL_law_2117 : decode cL_law 2117 = .ok (.iaload, 1) := by decide +kernel
theorem dL_law_2118 : decode cL_law 2118 = .ok (.invokevirtual 317, 3) := by decide +kernel
theorem dL_law_2121 : decode cL_law 2121 = .ok (.istore 7, 2) := by decide +kernel
theorem dL_law_2123 : decode cL_law 2123 = .ok (.aload_n 2, 1) := by decide +kernel
theorem dL_law_2124 : decode cL_law 2124 = .ok (.invokevirtual 211, 3) := by decide +kernel
theorem dL_law_2127 : decode cL_law 2127 = .ok (.iload 6, 2) := by decide +kernel
theorem dL_law_2129 : decode cL_law 2129 = .ok (.if_icmp .eq 5, 3) := by decide +kernel
theorem dL_law_2132 : decode cL_law 2132 = .ok (.iconst 0, 1) := by decide +kernel
theorem dL_law_2133 : decode cL_law 2133 = .ok (.ireturn, 1) := by decide +kernel
theorem dL_law_2134 : decode cL_law 2134 = .ok (.iload 6, 2) := by decide +kernel
theorem dL_law_2136 : decode cL_law 2136 = .ok (.ifCond .ne 15, 3) := by decide +kernel
theorem dL_law_2139 : decode cL_law 2139 = .ok (.aload_n 3, 1) := by decide +kernel
theorem dL_law_2140 : decode cL_law 2140 = .ok (.iconst 0, 1) := by decide +kernel
theorem dL_law_2141 : decode cL_law 2141 = .ok (.laload, 1) := by decide +kernel
theorem dL_law_2142 : decode cL_law 2142 = .ok (.iload 7, 2) := by decide +kernel
theorem dL_law_2144 : decode cL_law 2144 = .ok (.i2l, 1) := by decide +kernel
theorem dL_law_2145 : decode cL_law 2145 = .ok (.lcmp, 1) := by decide +kernel
theorem dL_law_2146 : decode cL_law 2146 = .ok (.ifCond .eq 5, 3) := by decide +kernel
theorem dL_law_2149 : decode cL_law 2149 = .ok (.iconst 0, 1) := by decide +kernel
theorem dL_law_2150 : decode cL_law 2150 = .ok (.ireturn, 1) := by decide +kernel
theorem dL_law_2151 : decode cL_law 2151 = .ok (.goto 1764, 3) := by decide +kernel
theorem dL_law_2154 : decode cL_law 2154 = .ok (.aload_n 1, 1) := by decide +kernel
theorem dL_law_2155 : decode cL_law 2155 = .ok (.aload_n 0, 1) := by decide +kernel
theorem dL_law_2156 : decode cL_law 2156 = .ok (.iload 5, 2) := by decide +kernel
theorem dL_law_2158 : decode cL_law 2158 = .ok (.iconst 1, 1) := by decide +kernel
theorem dL_law_2159 : decode cL_law 2159 = .ok (.iadd, 1) := by decide +kernel
theorem dL_law_2160 : decode cL_law 2160 = .ok (.iaload, 1) := by decide +kernel
theorem dL_law_2161 : decode cL_law 2161 = .ok (.aload_n 0, 1) := by decide +kernel
theorem dL_law_2162 : decode cL_law 2162 = .ok (.iload 5, 2) := by decide +kernel
theorem dL_law_2164 : decode cL_law 2164 = .ok (.iconst 2, 1) := by decide +kernel
theorem dL_law_2165 : decode cL_law 2165 = .ok (.iadd, 1) := by decide +kernel
theorem dL_law_2166 : decode cL_law 2166 = .ok (.iaload, 1) := by decide +kernel
theorem dL_law_2167 : decode cL_law 2167 = .ok (.aload_n 0, 1) := by decide +kernel
theorem dL_law_2168 : decode cL_law 2168 = .ok (.iload 5, 2) := by decide +kernel
theorem dL_law_2170 : decode cL_law 2170 = .ok (.iconst 3, 1) := by decide +kernel
theorem dL_law_2171 : decode cL_law 2171 = .ok (.iadd, 1) := by decide +kernel
theorem dL_law_2172 : decode cL_law 2172 = .ok (.iaload, 1) := by decide +kernel
theorem dL_law_2173 : decode cL_law 2173 = .ok (.aload_n 3, 1) := by decide +kernel
theorem dL_law_2174 : decode cL_law 2174 = .ok (.invokestatic 318, 3) := by decide +kernel
theorem dL_law_2177 : decode cL_law 2177 = .ok (.istore 6, 2) := by decide +kernel
theorem dL_law_2179 : decode cL_law 2179 = .ok (.aload_n 2, 1) := by decide +kernel
theorem dL_law_2180 : decode cL_law 2180 = .ok (.aload_n 0, 1) := by decide +kernel
theorem dL_law_2181 : decode cL_law 2181 = .ok (.iload 5, 2) := by decide +kernel
theorem dL_law_2183 : decode cL_law 2183 = .ok (.iconst 1, 1) := by decide +kernel
theorem dL_law_2184 : decode cL_law 2184 = .ok (.iadd, 1) := by decide +kernel
theorem dL_law_2185 : decode cL_law 2185 = .ok (.iaload, 1) := by decide +kernel
theorem dL_law_2186 : decode cL_law 2186 = .ok (.aload_n 0, 1) := by decide +kernel
theorem dL_law_2187 : decode cL_law 2187 = .ok (.iload 5, 2) := by decide +kernel
theorem dL_law_2189 : decode cL_law 2189 = .ok (.iconst 2, 1) := by decide +kernel
theorem dL_law_2190 : decode cL_law 2190 = .ok (.iadd, 1) := by decide +kernel
theorem dL_law_2191 : decode cL_law 2191 = .ok (.iaload, 1) := by decide +kernel
theorem dL_law_2192 : decode cL_law 2192 = .ok (.aload_n 0, 1) := by decide +kernel
theorem dL_law_2193 : decode cL_law 2193 = .ok (.iload 5, 2) := by decide +kernel
theorem dL_law_2195 : decode cL_law 2195 = .ok (.iconst 3, 1) := by decide +kernel
theorem dL_law_2196 : decode cL_law 2196 = .ok (.iadd, 1) := by decide +kernel
theorem dL_law_2197 : decode cL_law 2197 = .ok (.iaload, 1) := by decide +kernel
theorem dL_law_2198 : decode cL_law 2198 = .ok (.invokevirtual 320, 3) := by decide +kernel
theorem dL_law_2201 : decode cL_law 2201 = .ok (.istore 7, 2) := by decide +kernel
theorem dL_law_2203 : decode cL_law 2203 = .ok (.aload_n 2, 1) := by decide +kernel
theorem dL_law_2204 : decode cL_law 2204 = .ok (.invokevirtual 211, 3) := by decide +kernel
theorem dL_law_2207 : decode cL_law 2207 = .ok (.iload 6, 2) := by decide +kernel
theorem dL_law_2209 : decode cL_law 2209 = .ok (.if_icmp .eq 5, 3) := by decide +kernel
theorem dL_law_2212 : decode cL_law 2212 = .ok (.iconst 0, 1) := by decide +kernel
theorem dL_law_2213 : decode cL_law 2213 = .ok (.ireturn, 1) := by decide +kernel
theorem dL_law_2214 : decode cL_law 2214 = .ok (.iload 6, 2) := by decide +kernel
theorem dL_law_2216 : decode cL_law 2216 = .ok (.ifCond .ne 15, 3) := by decide +kernel
theorem dL_law_2219 : decode cL_law 2219 = .ok (.aload_n 3, 1) := by decide +kernel
theorem dL_law_2220 : decode cL_law 2220 = .ok (.iconst 0, 1) := by decide +kernel
theorem dL_law_2221 : decode cL_law 2221 = .ok (.laload, 1) := by decide +kernel
theorem dL_law_2222 : decode cL_law 2222 = .ok (.iload 7, 2) := by decide +kernel
theorem dL_law_2224 : decode cL_law 2224 = .ok (.i2l, 1) := by decide +kernel
theorem dL_law_2225 : decode cL_law 2225 = .ok (.lcmp, 1) := by decide +kernel
theorem dL_law_2226 : decode cL_law 2226 = .ok (.ifCond .eq 5, 3) := by decide +kernel
theorem dL_law_2229 : decode cL_law 2229 = .ok (.iconst 0, 1) := by decide +kernel
theorem dL_law_2230 : decode cL_law 2230 = .ok (.ireturn, 1) := by decide +kernel
theorem dL_law_2231 : decode cL_law 2231 = .ok (.goto 1684, 3) := by decide +kernel
theorem dL_law_2234 : decode cL_law 2234 = .ok (.aload_n 1, 1) := by decide +kernel
theorem dL_law_2235 : decode cL_law 2235 = .ok (.aload_n 0, 1) := by decide +kernel
theorem dL_law_2236 : decode cL_law 2236 = .ok (.iload 5, 2) := by decide +kernel
theorem dL_law_2238 : decode cL_law 2238 = .ok (.iconst 1, 1) := by decide +kernel
theorem dL_law_2239 : decode cL_law 2239 = .ok (.iadd, 1) := by decide +kernel
theorem dL_law_2240 : decode cL_law 2240 = .ok (.iaload, 1) := by decide +kernel
theorem dL_law_2241 : decode cL_law 2241 = .ok (.aload_n 3, 1) := by decide +kernel
theorem dL_law_2242 : decode cL_law 2242 = .ok (.invokestatic 321, 3) := by decide +kernel
theorem dL_law_2245 : decode cL_law 2245 = .ok (.istore 6, 2) := by decide +kernel
theorem dL_law_2247 : decode cL_law 2247 = .ok (.aload_n 2, 1) := by decide +kernel
theorem dL_law_2248 : decode cL_law 2248 = .ok (.aload_n 0, 1) := by decide +kernel
theorem dL_law_2249 : decode cL_law 2249 = .ok (.iload 5, 2) := by decide +kernel
theorem dL_law_2251 : decode cL_law 2251 = .ok (.iconst 1, 1) := by decide +kernel
theorem dL_law_2252 : decode cL_law 2252 = .ok (.iadd, 1) := by decide +kernel
theorem dL_law_2253 : decode cL_law 2253 = .ok (.iaload, 1) := by decide +kernel
theorem dL_law_2254 : decode cL_law 2254 = .ok (.invokevirtual 323, 3) := by decide +kernel
theorem dL_law_2257 : decode cL_law 2257 = .ok (.istore 7, 2) := by decide +kernel
theorem dL_law_2259 : decode cL_law 2259 = .ok (.aload_n 2, 1) := by decide +kernel
theorem dL_law_2260 : decode cL_law 2260 = .ok (.invokevirtual 211, 3) := by decide +kernel
theorem dL_law_2263 : decode cL_law 2263 = .ok (.iload 6, 2) := by decide +kernel
theorem dL_law_2265 : decode cL_law 2265 = .ok (.if_icmp .eq 5, 3) := by decide +kernel
theorem dL_law_2268 : decode cL_law 2268 = .ok (.iconst 0, 1) := by decide +kernel
theorem dL_law_2269 : decode cL_law 2269 = .ok (.ireturn, 1) := by decide +kernel
theorem dL_law_2270 : decode cL_law 2270 = .ok (.iload 6, 2) := by decide +kernel
theorem dL_law_2272 : decode cL_law 2272 = .ok (.ifCond .ne 15, 3) := by decide +kernel
theorem dL_law_2275 : decode cL_law 2275 = .ok (.aload_n 3, 1) := by decide +kernel
theorem dL_law_2276 : decode cL_law 2276 = .ok (.iconst 0, 1) := by decide +kernel
theorem dL_law_2277 : decode cL_law 2277 = .ok (.laload, 1) := by decide +kernel
theorem dL_law_2278 : decode cL_law 2278 = .ok (.iload 7, 2) := by decide +kernel
theorem dL_law_2280 : decode cL_law 2280 = .ok (.i2l, 1) := by decide +kernel
theorem dL_law_2281 : decode cL_law 2281 = .ok (.lcmp, 1) := by decide +kernel
theorem dL_law_2282 : decode cL_law 2282 = .ok (.ifCond .eq 5, 3) := by decide +kernel
theorem dL_law_2285 : decode cL_law 2285 = .ok (.iconst 0, 1) := by decide +kernel
theorem dL_law_2286 : decode cL_law 2286 = .ok (.ireturn, 1) := by decide +kernel
theorem dL_law_2287 : decode cL_law 2287 = .ok (.goto 1628, 3) := by decide +kernel
theorem dL_law_2290 : decode cL_law 2290 = .ok (.aload_n 1, 1) := by decide +kernel
theorem dL_law_2291 : decode cL_law 2291 = .ok (.aload_n 0, 1) := by decide +kernel
theorem dL_law_2292 : decode cL_law 2292 = .ok (.iload 5, 2) := by decide +kernel
theorem dL_law_2294 : decode cL_law 2294 = .ok (.iconst 1, 1) := by decide +kernel
theorem dL_law_2295 : decode cL_law 2295 = .ok (.iadd, 1) := by decide +kernel
theorem dL_law_2296 : decode cL_law 2296 = .ok (.iaload, 1) := by decide +kernel
theorem dL_law_2297 : decode cL_law 2297 = .ok (.aload_n 0, 1) := by decide +kernel
theorem dL_law_2298 : decode cL_law 2298 = .ok (.iload 5, 2) := by decide +kernel
theorem dL_law_2300 : decode cL_law 2300 = .ok (.iconst 2, 1) := by decide +kernel
theorem dL_law_2301 : decode cL_law 2301 = .ok (.iadd, 1) := by decide +kernel
theorem dL_law_2302 : decode cL_law 2302 = .ok (.iaload, 1) := by decide +kernel
theorem dL_law_2303 : decode cL_law 2303 = .ok (.aload_n 3, 1) := by decide +kernel
theorem dL_law_2304 : decode cL_law 2304 = .ok (.invokestatic 324, 3) := by decide +kernel
theorem dL_law_2307 : decode cL_law 2307 = .ok (.istore 6, 2) := by decide +kernel
theorem dL_law_2309 : decode cL_law 2309 = .ok (.aload_n 2, 1) := by decide +kernel
theorem dL_law_2310 : decode cL_law 2310 = .ok (.aload_n 0, 1) := by decide +kernel
theorem dL_law_2311 : decode cL_law 2311 = .ok (.iload 5, 2) := by decide +kernel
theorem dL_law_2313 : decode cL_law 2313 = .ok (.iconst 1, 1) := by decide +kernel
theorem dL_law_2314 : decode cL_law 2314 = .ok (.iadd, 1) := by decide +kernel
theorem dL_law_2315 : decode cL_law 2315 = .ok (.iaload, 1) := by decide +kernel
theorem dL_law_2316 : decode cL_law 2316 = .ok (.aload_n 0, 1) := by decide +kernel
theorem dL_law_2317 : decode cL_law 2317 = .ok (.iload 5, 2) := by decide +kernel
theorem dL_law_2319 : decode cL_law 2319 = .ok (.iconst 2, 1) := by decide +kernel
theorem dL_law_2320 : decode cL_law 2320 = .ok (.iadd, 1) := by decide +kernel
theorem dL_law_2321 : decode cL_law 2321 = .ok (.iaload, 1) := by decide +kernel
theorem dL_law_2322 : decode cL_law 2322 = .ok (.invokevirtual 326, 3) := by decide +kernel
theorem dL_law_2325 : decode cL_law 2325 = .ok (.istore 7, 2) := by decide +kernel
theorem dL_law_2327 : decode cL_law 2327 = .ok (.aload_n 2, 1) := by decide +kernel
theorem dL_law_2328 : decode cL_law 2328 = .ok (.invokevirtual 211, 3) := by decide +kernel
theorem dL_law_2331 : decode cL_law 2331 = .ok (.iload 6, 2) := by decide +kernel
theorem dL_law_2333 : decode cL_law 2333 = .ok (.if_icmp .eq 5, 3) := by decide +kernel
theorem dL_law_2336 : decode cL_law 2336 = .ok (.iconst 0, 1) := by decide +kernel
theorem dL_law_2337 : decode cL_law 2337 = .ok (.ireturn, 1) := by decide +kernel
theorem dL_law_2338 : decode cL_law 2338 = .ok (.iload 6, 2) := by decide +kernel
theorem dL_law_2340 : decode cL_law 2340 = .ok (.ifCond .ne 15, 3) := by decide +kernel
theorem dL_law_2343 : decode cL_law 2343 = .ok (.aload_n 3, 1) := by decide +kernel
theorem dL_law_2344 : decode cL_law 2344 = .ok (.iconst 0, 1) := by decide +kernel
theorem dL_law_2345 : decode cL_law 2345 = .ok (.laload, 1) := by decide +kernel
theorem dL_law_2346 : decode cL_law 2346 = .ok (.iload 7, 2) := by decide +kernel
theorem dL_law_2348 : decode cL_law 2348 = .ok (.i2l, 1) := by decide +kernel
theorem dL_law_2349 : decode cL_law 2349 = .ok (.lcmp, 1) := by decide +kernel
theorem dL_law_2350 : decode cL_law 2350 = .ok (.ifCond .eq 5, 3) := by decide +kernel
theorem dL_law_2353 : decode cL_law 2353 = .ok (.iconst 0, 1) := by decide +kernel
theorem dL_law_2354 : decode cL_law 2354 = .ok (.ireturn, 1) := by decide +kernel
theorem dL_law_2355 : decode cL_law 2355 = .ok (.goto 1560, 3) := by decide +kernel
theorem dL_law_2358 : decode cL_law 2358 = .ok (.aload_n 1, 1) := by decide +kernel
theorem dL_law_2359 : decode cL_law 2359 = .ok (.aload_n 3, 1) := by decide +kernel
theorem dL_law_2360 : decode cL_law 2360 = .ok (.invokestatic 327, 3) := by decide +kernel
theorem dL_law_2363 : decode cL_law 2363 = .ok (.istore 6, 2) := by decide +kernel
theorem dL_law_2365 : decode cL_law 2365 = .ok (.aload_n 2, 1) := by decide +kernel
theorem dL_law_2366 : decode cL_law 2366 = .ok (.invokevirtual 329, 3) := by decide +kernel
theorem dL_law_2369 : decode cL_law 2369 = .ok (.istore 7, 2) := by decide +kernel
theorem dL_law_2371 : decode cL_law 2371 = .ok (.aload_n 2, 1) := by decide +kernel
theorem dL_law_2372 : decode cL_law 2372 = .ok (.invokevirtual 211, 3) := by decide +kernel
theorem dL_law_2375 : decode cL_law 2375 = .ok (.iload 6, 2) := by decide +kernel
theorem dL_law_2377 : decode cL_law 2377 = .ok (.if_icmp .eq 5, 3) := by decide +kernel
theorem dL_law_2380 : decode cL_law 2380 = .ok (.iconst 0, 1) := by decide +kernel
theorem dL_law_2381 : decode cL_law 2381 = .ok (.ireturn, 1) := by decide +kernel
theorem dL_law_2382 : decode cL_law 2382 = .ok (.iload 6, 2) := by decide +kernel
theorem dL_law_2384 : decode cL_law 2384 = .ok (.ifCond .ne 15, 3) := by decide +kernel
theorem dL_law_2387 : decode cL_law 2387 = .ok (.aload_n 3, 1) := by decide +kernel
theorem dL_law_2388 : decode cL_law 2388 = .ok (.iconst 0, 1) := by decide +kernel
theorem dL_law_2389 : decode cL_law 2389 = .ok (.laload, 1) := by decide +kernel
theorem dL_law_2390 : decode cL_law 2390 = .ok (.iload 7, 2) := by decide +kernel
theorem dL_law_2392 : decode cL_law 2392 = .ok (.i2l, 1) := by decide +kernel
theorem dL_law_2393 : decode cL_law 2393 = .ok (.lcmp, 1) := by decide +kernel
theorem dL_law_2394 : decode cL_law 2394 = .ok (.ifCond .eq 5, 3) := by decide +kernel
theorem dL_law_2397 : decode cL_law 2397 = .ok (.iconst 0, 1) := by decide +kernel
theorem dL_law_2398 : decode cL_law 2398 = .ok (.ireturn, 1) := by decide +kernel
theorem dL_law_2399 : decode cL_law 2399 = .ok (.goto 1516, 3) := by decide +kernel
theorem dL_law_2402 : decode cL_law 2402 = .ok (.aload_n 1, 1) := by decide +kernel
theorem dL_law_2403 : decode cL_law 2403 = .ok (.aload_n 0, 1) := by decide +kernel
theorem dL_law_2404 : decode cL_law 2404 = .ok (.iload 5, 2) := by decide +kernel
theorem dL_law_2406 : decode cL_law 2406 = .ok (.iconst 1, 1) := by decide +kernel
theorem dL_law_2407 : decode cL_law 2407 = .ok (.iadd, 1) := by decide +kernel
theorem dL_law_2408 : decode cL_law 2408 = .ok (.iaload, 1) := by decide +kernel
theorem dL_law_2409 : decode cL_law 2409 = .ok (.aload_n 3, 1) := by decide +kernel
theorem dL_law_2410 : decode cL_law 2410 = .ok (.invokestatic 330, 3) := by decide +kernel
theorem dL_law_2413 : decode cL_law 2413 = .ok (.istore 6, 2) := by decide +kernel
theorem dL_law_2415 : decode cL_law 2415 = .ok (.aload_n 2, 1) := by decide +kernel
theorem dL_law_2416 : decode cL_law 2416 = .ok (.aload_n 0, 1) := by decide +kernel
theorem dL_law_2417 : decode cL_law 2417 = .ok (.iload 5, 2) := by decide +kernel
theorem dL_law_2419 : decode cL_law 2419 = .ok (.iconst 1, 1) := by decide +kernel
theorem dL_law_2420 : decode cL_law 2420 = .ok (.iadd, 1) := by decide +kernel
theorem dL_law_2421 : decode cL_law 2421 = .ok (.iaload, 1) := by decide +kernel
theorem dL_law_2422 : decode cL_law 2422 = .ok (.invokevirtual 332, 3) := by decide +kernel
theorem dL_law_2425 : decode cL_law 2425 = .ok (.istore 7, 2) := by decide +kernel
theorem dL_law_2427 : decode cL_law 2427 = .ok (.aload_n 2, 1) := by decide +kernel
theorem dL_law_2428 : decode cL_law 2428 = .ok (.invokevirtual 211, 3) := by decide +kernel
theorem dL_law_2431 : decode cL_law 2431 = .ok (.iload 6, 2) := by decide +kernel
theorem dL_law_2433 : decode cL_law 2433 = .ok (.if_icmp .eq 5, 3) := by decide +kernel
theorem dL_law_2436 : decode cL_law 2436 = .ok (.iconst 0, 1) := by decide +kernel
theorem dL_law_2437 : decode cL_law 2437 = .ok (.ireturn, 1) := by decide +kernel
theorem dL_law_2438 : decode cL_law 2438 = .ok (.iload 6, 2) := by decide +kernel
theorem dL_law_2440 : decode cL_law 2440 = .ok (.ifCond .ne 15, 3) := by decide +kernel
theorem dL_law_2443 : decode cL_law 2443 = .ok (.aload_n 3, 1) := by decide +kernel
theorem dL_law_2444 : decode cL_law 2444 = .ok (.iconst 0, 1) := by decide +kernel
theorem dL_law_2445 : decode cL_law 2445 = .ok (.laload, 1) := by decide +kernel
theorem dL_law_2446 : decode cL_law 2446 = .ok (.iload 7, 2) := by decide +kernel
theorem dL_law_2448 : decode cL_law 2448 = .ok (.i2l, 1) := by decide +kernel
theorem dL_law_2449 : decode cL_law 2449 = .ok (.lcmp, 1) := by decide +kernel
theorem dL_law_2450 : decode cL_law 2450 = .ok (.ifCond .eq 5, 3) := by decide +kernel
theorem dL_law_2453 : decode cL_law 2453 = .ok (.iconst 0, 1) := by decide +kernel
theorem dL_law_2454 : decode cL_law 2454 = .ok (.ireturn, 1) := by decide +kernel
theorem dL_law_2455 : decode cL_law 2455 = .ok (.goto 1460, 3) := by decide +kernel
theorem dL_law_2458 : decode cL_law 2458 = .ok (.aload_n 1, 1) := by decide +kernel
theorem dL_law_2459 : decode cL_law 2459 = .ok (.aload_n 0, 1) := by decide +kernel
theorem dL_law_2460 : decode cL_law 2460 = .ok (.iload 5, 2) := by decide +kernel
theorem dL_law_2462 : decode cL_law 2462 = .ok (.iconst 1, 1) := by decide +kernel
theorem dL_law_2463 : decode cL_law 2463 = .ok (.iadd, 1) := by decide +kernel
theorem dL_law_2464 : decode cL_law 2464 = .ok (.iaload, 1) := by decide +kernel
theorem dL_law_2465 : decode cL_law 2465 = .ok (.aload_n 3, 1) := by decide +kernel
theorem dL_law_2466 : decode cL_law 2466 = .ok (.invokestatic 333, 3) := by decide +kernel
theorem dL_law_2469 : decode cL_law 2469 = .ok (.istore 6, 2) := by decide +kernel
theorem dL_law_2471 : decode cL_law 2471 = .ok (.aload_n 2, 1) := by decide +kernel
theorem dL_law_2472 : decode cL_law 2472 = .ok (.aload_n 0, 1) := by decide +kernel
theorem dL_law_2473 : decode cL_law 2473 = .ok (.iload 5, 2) := by decide +kernel
theorem dL_law_2475 : decode cL_law 2475 = .ok (.iconst 1, 1) := by decide +kernel
theorem dL_law_2476 : decode cL_law 2476 = .ok (.iadd, 1) := by decide +kernel
theorem dL_law_2477 : decode cL_law 2477 = .ok (.iaload, 1) := by decide +kernel
theorem dL_law_2478 : decode cL_law 2478 = .ok (.invokevirtual 335, 3) := by decide +kernel
theorem dL_law_2481 : decode cL_law 2481 = .ok (.istore 7, 2) := by decide +kernel
theorem dL_law_2483 : decode cL_law 2483 = .ok (.aload_n 2, 1) := by decide +kernel
theorem dL_law_2484 : decode cL_law 2484 = .ok (.invokevirtual 211, 3) := by decide +kernel
theorem dL_law_2487 : decode cL_law 2487 = .ok (.iload 6, 2) := by decide +kernel
theorem dL_law_2489 : decode cL_law 2489 = .ok (.if_icmp .eq 5, 3) := by decide +kernel
theorem dL_law_2492 : decode cL_law 2492 = .ok (.iconst 0, 1) := by decide +kernel
theorem dL_law_2493 : decode cL_law 2493 = .ok (.ireturn, 1) := by decide +kernel
theorem dL_law_2494 : decode cL_law 2494 = .ok (.iload 6, 2) := by decide +kernel
theorem dL_law_2496 : decode cL_law 2496 = .ok (.ifCond .ne 15, 3) := by decide +kernel
theorem dL_law_2499 : decode cL_law 2499 = .ok (.aload_n 3, 1) := by decide +kernel
theorem dL_law_2500 : decode cL_law 2500 = .ok (.iconst 0, 1) := by decide +kernel
theorem dL_law_2501 : decode cL_law 2501 = .ok (.laload, 1) := by decide +kernel
theorem dL_law_2502 : decode cL_law 2502 = .ok (.iload 7, 2) := by decide +kernel
theorem dL_law_2504 : decode cL_law 2504 = .ok (.i2l, 1) := by decide +kernel
theorem dL_law_2505 : decode cL_law 2505 = .ok (.lcmp, 1) := by decide +kernel
theorem dL_law_2506 : decode cL_law 2506 = .ok (.ifCond .eq 5, 3) := by decide +kernel
theorem dL_law_2509 : decode cL_law 2509 = .ok (.iconst 0, 1) := by decide +kernel
theorem dL_law_2510 : decode cL_law 2510 = .ok (.ireturn, 1) := by decide +kernel
theorem dL_law_2511 : decode cL_law 2511 = .ok (.goto 1404, 3) := by decide +kernel
theorem dL_law_2514 : decode cL_law 2514 = .ok (.aload_n 1, 1) := by decide +kernel
theorem dL_law_2515 : decode cL_law 2515 = .ok (.aload_n 3, 1) := by decide +kernel
theorem dL_law_2516 : decode cL_law 2516 = .ok (.invokestatic 336, 3) := by decide +kernel
theorem dL_law_2519 : decode cL_law 2519 = .ok (.istore 6, 2) := by decide +kernel
theorem dL_law_2521 : decode cL_law 2521 = .ok (.aload_n 2, 1) := by decide +kernel
theorem dL_law_2522 : decode cL_law 2522 = .ok (.invokevirtual 338, 3) := by decide +kernel
theorem dL_law_2525 : decode cL_law 2525 = .ok (.istore 7, 2) := by decide +kernel
theorem dL_law_2527 : decode cL_law 2527 = .ok (.aload_n 2, 1) := by decide +kernel
theorem dL_law_2528 : decode cL_law 2528 = .ok (.invokevirtual 211, 3) := by decide +kernel
theorem dL_law_2531 : decode cL_law 2531 = .ok (.iload 6, 2) := by decide +kernel
theorem dL_law_2533 : decode cL_law 2533 = .ok (.if_icmp .eq 5, 3) := by decide +kernel
theorem dL_law_2536 : decode cL_law 2536 = .ok (.iconst 0, 1) := by decide +kernel
theorem dL_law_2537 : decode cL_law 2537 = .ok (.ireturn, 1) := by decide +kernel
theorem dL_law_2538 : decode cL_law 2538 = .ok (.iload 6, 2) := by decide +kernel
theorem dL_law_2540 : decode cL_law 2540 = .ok (.ifCond .ne 15, 3) := by decide +kernel
theorem dL_law_2543 : decode cL_law 2543 = .ok (.aload_n 3, 1) := by decide +kernel
theorem dL_law_2544 : decode cL_law 2544 = .ok (.iconst 0, 1) := by decide +kernel
theorem dL_law_2545 : decode cL_law 2545 = .ok (.laload, 1) := by decide +kernel
theorem dL_law_2546 : decode cL_law 2546 = .ok (.iload 7, 2) := by decide +kernel
theorem dL_law_2548 : decode cL_law 2548 = .ok (.i2l, 1) := by decide +kernel
theorem dL_law_2549 : decode cL_law 2549 = .ok (.lcmp, 1) := by decide +kernel
theorem dL_law_2550 : decode cL_law 2550 = .ok (.ifCond .eq 5, 3) := by decide +kernel
theorem dL_law_2553 : decode cL_law 2553 = .ok (.iconst 0, 1) := by decide +kernel
theorem dL_law_2554 : decode cL_law 2554 = .ok (.ireturn, 1) := by decide +kernel
theorem dL_law_2555 : decode cL_law 2555 = .ok (.goto 1360, 3) := by decide +kernel
theorem dL_law_2558 : decode cL_law 2558 = .ok (.aload_n 1, 1) := by decide +kernel
theorem dL_law_2559 : decode cL_law 2559 = .ok (.aload_n 0, 1) := by decide +kernel
theorem dL_law_2560 : decode cL_law 2560 = .ok (.iload 5, 2) := by decide +kernel
theorem dL_law_2562 : decode cL_law 2562 = .ok (.iconst 1, 1) := by decide +kernel
theorem dL_law_2563 : decode cL_law 2563 = .ok (.iadd, 1) := by decide +kernel
theorem dL_law_2564 : decode cL_law 2564 = .ok (.iaload, 1) := by decide +kernel
theorem dL_law_2565 : decode cL_law 2565 = .ok (.aload_n 3, 1) := by decide +kernel
theorem dL_law_2566 : decode cL_law 2566 = .ok (.invokestatic 339, 3) := by decide +kernel
theorem dL_law_2569 : decode cL_law 2569 = .ok (.istore 6, 2) := by decide +kernel
theorem dL_law_2571 : decode cL_law 2571 = .ok (.aload_n 2, 1) := by decide +kernel
theorem dL_law_2572 : decode cL_law 2572 = .ok (.aload_n 0, 1) := by decide +kernel
theorem dL_law_2573 : decode cL_law 2573 = .ok (.iload 5, 2) := by decide +kernel
theorem dL_law_2575 : decode cL_law 2575 = .ok (.iconst 1, 1) := by decide +kernel
theorem dL_law_2576 : decode cL_law 2576 = .ok (.iadd, 1) := by decide +kernel
theorem dL_law_2577 : decode cL_law 2577 = .ok (.iaload, 1) := by decide +kernel
theorem dL_law_2578 : decode cL_law 2578 = .ok (.invokevirtual 341, 3) := by decide +kernel
theorem dL_law_2581 : decode cL_law 2581 = .ok (.istore 7, 2) := by decide +kernel
theorem dL_law_2583 : decode cL_law 2583 = .ok (.aload_n 2, 1) := by decide +kernel
theorem dL_law_2584 : decode cL_law 2584 = .ok (.invokevirtual 211, 3) := by decide +kernel
theorem dL_law_2587 : decode cL_law 2587 = .ok (.iload 6, 2) := by decide +kernel
theorem dL_law_2589 : decode cL_law 2589 = .ok (.if_icmp .eq 5, 3) := by decide +kernel
theorem dL_law_2592 : decode cL_law 2592 = .ok (.iconst 0, 1) := by decide +kernel
theorem dL_law_2593 : decode cL_law 2593 = .ok (.ireturn, 1) := by decide +kernel
theorem dL_law_2594 : decode cL_law 2594 = .ok (.iload 6, 2) := by decide +kernel
theorem dL_law_2596 : decode cL_law 2596 = .ok (.ifCond .ne 15, 3) := by decide +kernel
theorem dL_law_2599 : decode cL_law 2599 = .ok (.aload_n 3, 1) := by decide +kernel
theorem dL_law_2600 : decode cL_law 2600 = .ok (.iconst 0, 1) := by decide +kernel
theorem dL_law_2601 : decode cL_law 2601 = .ok (.laload, 1) := by decide +kernel
theorem dL_law_2602 : decode cL_law 2602 = .ok (.iload 7, 2) := by decide +kernel
theorem dL_law_2604 : decode cL_law 2604 = .ok (.i2l, 1) := by decide +kernel
theorem dL_law_2605 : decode cL_law 2605 = .ok (.lcmp, 1) := by decide +kernel
theorem dL_law_2606 : decode cL_law 2606 = .ok (.ifCond .eq 5, 3) := by decide +kernel
theorem dL_law_2609 : decode cL_law 2609 = .ok (.iconst 0, 1) := by decide +kernel
theorem dL_law_2610 : decode cL_law 2610 = .ok (.ireturn, 1) := by decide +kernel
theorem dL_law_2611 : decode cL_law 2611 = .ok (.goto 1304, 3) := by decide +kernel
theorem dL_law_2614 : decode cL_law 2614 = .ok (.aload_n 1, 1) := by decide +kernel
theorem dL_law_2615 : decode cL_law 2615 = .ok (.aload 4, 2) := by decide +kernel
theorem dL_law_2617 : decode cL_law 2617 = .ok (.invokestatic 342, 3) := by decide +kernel
theorem dL_law_2620 : decode cL_law 2620 = .ok (.istore 6, 2) := by decide +kernel
theorem dL_law_2622 : decode cL_law 2622 = .ok (.aload_n 2, 1) := by decide +kernel
theorem dL_law_2623 : decode cL_law 2623 = .ok (.invokevirtual 345, 3) := by decide +kernel
theorem dL_law_2626 : decode cL_law 2626 = .ok (.dstore 7, 2) := by decide +kernel
theorem dL_law_2628 : decode cL_law 2628 = .ok (.aload_n 2, 1) := by decide +kernel
theorem dL_law_2629 : decode cL_law 2629 = .ok (.invokevirtual 211, 3) := by decide +kernel
theorem dL_law_2632 : decode cL_law 2632 = .ok (.iload 6, 2) := by decide +kernel
theorem dL_law_2634 : decode cL_law 2634 = .ok (.if_icmp .eq 5, 3) := by decide +kernel
theorem dL_law_2637 : decode cL_law 2637 = .ok (.iconst 0, 1) := by decide +kernel
theorem dL_law_2638 : decode cL_law 2638 = .ok (.ireturn, 1) := by decide +kernel
theorem dL_law_2639 : decode cL_law 2639 = .ok (.iload 6, 2) := by decide +kernel
theorem dL_law_2641 : decode cL_law 2641 = .ok (.ifCond .ne 35, 3) := by decide +kernel
theorem dL_law_2644 : decode cL_law 2644 = .ok (.aload 4, 2) := by decide +kernel
theorem dL_law_2646 : decode cL_law 2646 = .ok (.iconst 0, 1) := by decide +kernel
theorem dL_law_2647 : decode cL_law 2647 = .ok (.daload, 1) := by decide +kernel
theorem dL_law_2648 : decode cL_law 2648 = .ok (.dload 7, 2) := by decide +kernel
theorem dL_law_2650 : decode cL_law 2650 = .ok (.dcmp .l, 1) := by decide +kernel
theorem dL_law_2651 : decode cL_law 2651 = .ok (.ifCond .eq 25, 3) := by decide +kernel
theorem dL_law_2654 : decode cL_law 2654 = .ok (.aload 4, 2) := by decide +kernel
theorem dL_law_2656 : decode cL_law 2656 = .ok (.iconst 0, 1) := by decide +kernel
theorem dL_law_2657 : decode cL_law 2657 = .ok (.daload, 1) := by decide +kernel
theorem dL_law_2658 : decode cL_law 2658 = .ok (.aload 4, 2) := by decide +kernel
theorem dL_law_2660 : decode cL_law 2660 = .ok (.iconst 0, 1) := by decide +kernel
theorem dL_law_2661 : decode cL_law 2661 = .ok (.daload, 1) := by decide +kernel
theorem dL_law_2662 : decode cL_law 2662 = .ok (.dcmp .l, 1) := by decide +kernel
theorem dL_law_2663 : decode cL_law 2663 = .ok (.ifCond .eq 11, 3) := by decide +kernel
theorem dL_law_2666 : decode cL_law 2666 = .ok (.dload 7, 2) := by decide +kernel
theorem dL_law_2668 : decode cL_law 2668 = .ok (.dload 7, 2) := by decide +kernel
theorem dL_law_2670 : decode cL_law 2670 = .ok (.dcmp .l, 1) := by decide +kernel
theorem dL_law_2671 : decode cL_law 2671 = .ok (.ifCond .ne 5, 3) := by decide +kernel
theorem dL_law_2674 : decode cL_law 2674 = .ok (.iconst 0, 1) := by decide +kernel
theorem dL_law_2675 : decode cL_law 2675 = .ok (.ireturn, 1) := by decide +kernel
theorem dL_law_2676 : decode cL_law 2676 = .ok (.goto 1239, 3) := by decide +kernel
theorem dL_law_2679 : decode cL_law 2679 = .ok (.aload_n 1, 1) := by decide +kernel
theorem dL_law_2680 : decode cL_law 2680 = .ok (.aload 4, 2) := by decide +kernel
theorem dL_law_2682 : decode cL_law 2682 = .ok (.invokestatic 346, 3) := by decide +kernel
theorem dL_law_2685 : decode cL_law 2685 = .ok (.istore 6, 2) := by decide +kernel
theorem dL_law_2687 : decode cL_law 2687 = .ok (.aload_n 2, 1) := by decide +kernel
theorem dL_law_2688 : decode cL_law 2688 = .ok (.invokevirtual 348, 3) := by decide +kernel
theorem dL_law_2691 : decode cL_law 2691 = .ok (.fstore 7, 2) := by decide +kernel
theorem dL_law_2693 : decode cL_law 2693 = .ok (.aload_n 2, 1) := by decide +kernel
theorem dL_law_2694 : decode cL_law 2694 = .ok (.invokevirtual 211, 3) := by decide +kernel
theorem dL_law_2697 : decode cL_law 2697 = .ok (.iload 6, 2) := by decide +kernel
theorem dL_law_2699 : decode cL_law 2699 = .ok (.if_icmp .eq 5, 3) := by decide +kernel
theorem dL_law_2702 : decode cL_law 2702 = .ok (.iconst 0, 1) := by decide +kernel
theorem dL_law_2703 : decode cL_law 2703 = .ok (.ireturn, 1) := by decide +kernel
theorem dL_law_2704 : decode cL_law 2704 = .ok (.iload 6, 2) := by decide +kernel
theorem dL_law_2706 : decode cL_law 2706 = .ok (.ifCond .ne 36, 3) := by decide +kernel
theorem dL_law_2709 : decode cL_law 2709 = .ok (.aload 4, 2) := by decide +kernel
theorem dL_law_2711 : decode cL_law 2711 = .ok (.iconst 0, 1) := by decide +kernel
theorem dL_law_2712 : decode cL_law 2712 = .ok (.daload, 1) := by decide +kernel
theorem dL_law_2713 : decode cL_law 2713 = .ok (.fload 7, 2) := by decide +kernel
theorem dL_law_2715 : decode cL_law 2715 = .ok (.f2d, 1) := by decide +kernel
theorem dL_law_2716 : decode cL_law 2716 = .ok (.dcmp .l, 1) := by decide +kernel
theorem dL_law_2717 : decode cL_law 2717 = .ok (.ifCond .eq 25, 3) := by decide +kernel
theorem dL_law_2720 : decode cL_law 2720 = .ok (.aload 4, 2) := by decide +kernel
theorem dL_law_2722 : decode cL_law 2722 = .ok (.iconst 0, 1) := by decide +kernel
theorem dL_law_2723 : decode cL_law 2723 = .ok (.daload, 1) := by decide +kernel
theorem dL_law_2724 : decode cL_law 2724 = .ok (.aload 4, 2) := by decide +kernel
theorem dL_law_2726 : decode cL_law 2726 = .ok (.iconst 0, 1) := by decide +kernel
theorem dL_law_2727 : decode cL_law 2727 = .ok (.daload, 1) := by decide +kernel
theorem dL_law_2728 : decode cL_law 2728 = .ok (.dcmp .l, 1) := by decide +kernel
theorem dL_law_2729 : decode cL_law 2729 = .ok (.ifCond .eq 11, 3) := by decide +kernel
theorem dL_law_2732 : decode cL_law 2732 = .ok (.fload 7, 2) := by decide +kernel
theorem dL_law_2734 : decode cL_law 2734 = .ok (.fload 7, 2) := by decide +kernel
theorem dL_law_2736 : decode cL_law 2736 = .ok (.fcmp .l, 1) := by decide +kernel
theorem dL_law_2737 : decode cL_law 2737 = .ok (.ifCond .ne 5, 3) := by decide +kernel
theorem dL_law_2740 : decode cL_law 2740 = .ok (.iconst 0, 1) := by decide +kernel
theorem dL_law_2741 : decode cL_law 2741 = .ok (.ireturn, 1) := by decide +kernel
theorem dL_law_2742 : decode cL_law 2742 = .ok (.goto 1173, 3) := by decide +kernel
theorem dL_law_2745 : decode cL_law 2745 = .ok (.aload_n 1, 1) := by decide +kernel
theorem dL_law_2746 : decode cL_law 2746 = .ok (.invokevirtual 349, 3) := by decide +kernel
theorem dL_law_2749 : decode cL_law 2749 = .ok (.aload_n 2, 1) := by decide +kernel
theorem dL_law_2750 : decode cL_law 2750 = .ok (.invokevirtual 352, 3) := by decide +kernel
theorem dL_law_2753 : decode cL_law 2753 = .ok (.if_icmp .eq 1162, 3) := by decide +kernel
theorem dL_law_2756 : decode cL_law 2756 = .ok (.iconst 0, 1) := by decide +kernel
theorem dL_law_2757 : decode cL_law 2757 = .ok (.ireturn, 1) := by decide +kernel
theorem dL_law_2758 : decode cL_law 2758 = .ok (.aload_n 1, 1) := by decide +kernel
theorem dL_law_2759 : decode cL_law 2759 = .ok (.aload_n 0, 1) := by decide +kernel
theorem dL_law_2760 : decode cL_law 2760 = .ok (.iload 5, 2) := by decide +kernel
theorem dL_law_2762 : decode cL_law 2762 = .ok (.iconst 1, 1) := by decide +kernel
theorem dL_law_2763 : decode cL_law 2763 = .ok (.iadd, 1) := by decide +kernel
theorem dL_law_2764 : decode cL_law 2764 = .ok (.iaload, 1) := by decide +kernel
theorem dL_law_2765 : decode cL_law 2765 = .ok (.aload_n 0, 1) := by decide +kernel
theorem dL_law_2766 : decode cL_law 2766 = .ok (.iload 5, 2) := by decide +kernel
theorem dL_law_2768 : decode cL_law 2768 = .ok (.iconst 2, 1) := by decide +kernel
theorem dL_law_2769 : decode cL_law 2769 = .ok (.iadd, 1) := by decide +kernel
theorem dL_law_2770 : decode cL_law 2770 = .ok (.iaload, 1) := by decide +kernel
theorem dL_law_2771 : decode cL_law 2771 = .ok (.aload_n 3, 1) := by decide +kernel
theorem dL_law_2772 : decode cL_law 2772 = .ok (.invokestatic 353, 3) := by decide +kernel
theorem dL_law_2775 : decode cL_law 2775 = .ok (.istore 6, 2) := by decide +kernel
theorem dL_law_2777 : decode cL_law 2777 = .ok (.aload_n 2, 1) := by decide +kernel
theorem dL_law_2778 : decode cL_law 2778 = .ok (.aload_n 0, 1) := by decide +kernel
theorem dL_law_2779 : decode cL_law 2779 = .ok (.iload 5, 2) := by decide +kernel
theorem dL_law_2781 : decode cL_law 2781 = .ok (.iconst 1, 1) := by decide +kernel
theorem dL_law_2782 : decode cL_law 2782 = .ok (.iadd, 1) := by decide +kernel
theorem dL_law_2783 : decode cL_law 2783 = .ok (.iaload, 1) := by decide +kernel
theorem dL_law_2784 : decode cL_law 2784 = .ok (.aload_n 0, 1) := by decide +kernel
theorem dL_law_2785 : decode cL_law 2785 = .ok (.iload 5, 2) := by decide +kernel
theorem dL_law_2787 : decode cL_law 2787 = .ok (.iconst 2, 1) := by decide +kernel
theorem dL_law_2788 : decode cL_law 2788 = .ok (.iadd, 1) := by decide +kernel
theorem dL_law_2789 : decode cL_law 2789 = .ok (.iaload, 1) := by decide +kernel
theorem dL_law_2790 : decode cL_law 2790 = .ok (.invokevirtual 355, 3) := by decide +kernel
theorem dL_law_2793 : decode cL_law 2793 = .ok (.istore 7, 2) := by decide +kernel
theorem dL_law_2795 : decode cL_law 2795 = .ok (.aload_n 2, 1) := by decide +kernel
theorem dL_law_2796 : decode cL_law 2796 = .ok (.invokevirtual 211, 3) := by decide +kernel
theorem dL_law_2799 : decode cL_law 2799 = .ok (.iload 6, 2) := by decide +kernel
theorem dL_law_2801 : decode cL_law 2801 = .ok (.if_icmp .eq 5, 3) := by decide +kernel
theorem dL_law_2804 : decode cL_law 2804 = .ok (.iconst 0, 1) := by decide +kernel
theorem dL_law_2805 : decode cL_law 2805 = .ok (.ireturn, 1) := by decide +kernel
theorem dL_law_2806 : decode cL_law 2806 = .ok (.iload 6, 2) := by decide +kernel
theorem dL_law_2808 : decode cL_law 2808 = .ok (.ifCond .ne 15, 3) := by decide +kernel
theorem dL_law_2811 : decode cL_law 2811 = .ok (.aload_n 3, 1) := by decide +kernel
theorem dL_law_2812 : decode cL_law 2812 = .ok (.iconst 0, 1) := by decide +kernel
theorem dL_law_2813 : decode cL_law 2813 = .ok (.laload, 1) := by decide +kernel
theorem dL_law_2814 : decode cL_law 2814 = .ok (.iload 7, 2) := by decide +kernel
theorem dL_law_2816 : decode cL_law 2816 = .ok (.i2l, 1) := by decide +kernel
theorem dL_law_2817 : decode cL_law 2817 = .ok (.lcmp, 1) := by decide +kernel
theorem dL_law_2818 : decode cL_law 2818 = .ok (.ifCond .eq 5, 3) := by decide +kernel
theorem dL_law_2821 : decode cL_law 2821 = .ok (.iconst 0, 1) := by decide +kernel
theorem dL_law_2822 : decode cL_law 2822 = .ok (.ireturn, 1) := by decide +kernel
theorem dL_law_2823 : decode cL_law 2823 = .ok (.goto 1092, 3) := by decide +kernel
theorem dL_law_2826 : decode cL_law 2826 = .ok (.aload_n 1, 1) := by decide +kernel
theorem dL_law_2827 : decode cL_law 2827 = .ok (.aload_n 3, 1) := by decide +kernel
theorem dL_law_2828 : decode cL_law 2828 = .ok (.invokestatic 356, 3) := by decide +kernel
theorem dL_law_2831 : decode cL_law 2831 = .ok (.istore 6, 2) := by decide +kernel
theorem dL_law_2833 : decode cL_law 2833 = .ok (.aload_n 2, 1) := by decide +kernel
theorem dL_law_2834 : decode cL_law 2834 = .ok (.invokevirtual 358, 3) := by decide +kernel
theorem dL_law_2837 : decode cL_law 2837 = .ok (.istore 7, 2) := by decide +kernel
theorem dL_law_2839 : decode cL_law 2839 = .ok (.aload_n 2, 1) := by decide +kernel
theorem dL_law_2840 : decode cL_law 2840 = .ok (.invokevirtual 211, 3) := by decide +kernel
theorem dL_law_2843 : decode cL_law 2843 = .ok (.iload 6, 2) := by decide +kernel
theorem dL_law_2845 : decode cL_law 2845 = .ok (.if_icmp .eq 5, 3) := by decide +kernel
theorem dL_law_2848 : decode cL_law 2848 = .ok (.iconst 0, 1) := by decide +kernel
theorem dL_law_2849 : decode cL_law 2849 = .ok (.ireturn, 1) := by decide +kernel
theorem dL_law_2850 : decode cL_law 2850 = .ok (.iload 6, 2) := by decide +kernel
theorem dL_law_2852 : decode cL_law 2852 = .ok (.ifCond .ne 15, 3) := by decide +kernel
theorem dL_law_2855 : decode cL_law 2855 = .ok (.aload_n 3, 1) := by decide +kernel
theorem dL_law_2856 : decode cL_law 2856 = .ok (.iconst 0, 1) := by decide +kernel
theorem dL_law_2857 : decode cL_law 2857 = .ok (.laload, 1) := by decide +kernel
theorem dL_law_2858 : decode cL_law 2858 = .ok (.iload 7, 2) := by decide +kernel
theorem dL_law_2860 : decode cL_law 2860 = .ok (.i2l, 1) := by decide +kernel
theorem dL_law_2861 : decode cL_law 2861 = .ok (.lcmp, 1) := by decide +kernel
theorem dL_law_2862 : decode cL_law 2862 = .ok (.ifCond .eq 5, 3) := by decide +kernel
theorem dL_law_2865 : decode cL_law 2865 = .ok (.iconst 0, 1) := by decide +kernel
theorem dL_law_2866 : decode cL_law 2866 = .ok (.ireturn, 1) := by decide +kernel
theorem dL_law_2867 : decode cL_law 2867 = .ok (.goto 1048, 3) := by decide +kernel
theorem dL_law_2870 : decode cL_law 2870 = .ok (.aload_n 1, 1) := by decide +kernel
theorem dL_law_2871 : decode cL_law 2871 = .ok (.aload_n 0, 1) := by decide +kernel
theorem dL_law_2872 : decode cL_law 2872 = .ok (.iload 5, 2) := by decide +kernel
theorem dL_law_2874 : decode cL_law 2874 = .ok (.iconst 1, 1) := by decide +kernel
theorem dL_law_2875 : decode cL_law 2875 = .ok (.iadd, 1) := by decide +kernel
theorem dL_law_2876 : decode cL_law 2876 = .ok (.iaload, 1) := by decide +kernel
theorem dL_law_2877 : decode cL_law 2877 = .ok (.aload_n 3, 1) := by decide +kernel
theorem dL_law_2878 : decode cL_law 2878 = .ok (.invokestatic 359, 3) := by decide +kernel
theorem dL_law_2881 : decode cL_law 2881 = .ok (.istore 6, 2) := by decide +kernel
theorem dL_law_2883 : decode cL_law 2883 = .ok (.aload_n 2, 1) := by decide +kernel
theorem dL_law_2884 : decode cL_law 2884 = .ok (.aload_n 0, 1) := by decide +kernel
theorem dL_law_2885 : decode cL_law 2885 = .ok (.iload 5, 2) := by decide +kernel
theorem dL_law_2887 : decode cL_law 2887 = .ok (.iconst 1, 1) := by decide +kernel
theorem dL_law_2888 : decode cL_law 2888 = .ok (.iadd, 1) := by decide +kernel
theorem dL_law_2889 : decode cL_law 2889 = .ok (.iaload, 1) := by decide +kernel
theorem dL_law_2890 : decode cL_law 2890 = .ok (.invokevirtual 361, 3) := by decide +kernel
theorem dL_law_2893 : decode cL_law 2893 = .ok (.istore 7, 2) := by decide +kernel
theorem dL_law_2895 : decode cL_law 2895 = .ok (.aload_n 2, 1) := by decide +kernel
theorem dL_law_2896 : decode cL_law 2896 = .ok (.invokevirtual 211, 3) := by decide +kernel
theorem dL_law_2899 : decode cL_law 2899 = .ok (.iload 6, 2) := by decide +kernel
theorem dL_law_2901 : decode cL_law 2901 = .ok (.if_icmp .eq 5, 3) := by decide +kernel
theorem dL_law_2904 : decode cL_law 2904 = .ok (.iconst 0, 1) := by decide +kernel
theorem dL_law_2905 : decode cL_law 2905 = .ok (.ireturn, 1) := by decide +kernel
theorem dL_law_2906 : decode cL_law 2906 = .ok (.iload 6, 2) := by decide +kernel
theorem dL_law_2908 : decode cL_law 2908 = .ok (.ifCond .ne 15, 3) := by decide +kernel
theorem dL_law_2911 : decode cL_law 2911 = .ok (.aload_n 3, 1) := by decide +kernel
theorem dL_law_2912 : decode cL_law 2912 = .ok (.iconst 0, 1) := by decide +kernel
theorem dL_law_2913 : decode cL_law 2913 = .ok (.laload, 1) := by decide +kernel
theorem dL_law_2914 : decode cL_law 2914 = .ok (.iload 7, 2) := by decide +kernel
theorem dL_law_2916 : decode cL_law 2916 = .ok (.i2l, 1) := by decide +kernel
theorem dL_law_2917 : decode cL_law 2917 = .ok (.lcmp, 1) := by decide +kernel
theorem dL_law_2918 : decode cL_law 2918 = .ok (.ifCond .eq 5, 3) := by decide +kernel
theorem dL_law_2921 : decode cL_law 2921 = .ok (.iconst 0, 1) := by decide +kernel
theorem dL_law_2922 : decode cL_law 2922 = .ok (.ireturn, 1) := by decide +kernel
theorem dL_law_2923 : decode cL_law 2923 = .ok (.goto 992, 3) := by decide +kernel
theorem dL_law_2926 : decode cL_law 2926 = .ok (.aload_n 1, 1) := by decide +kernel
theorem dL_law_2927 : decode cL_law 2927 = .ok (.aload_n 0, 1) := by decide +kernel
theorem dL_law_2928 : decode cL_law 2928 = .ok (.iload 5, 2) := by decide +kernel
theorem dL_law_2930 : decode cL_law 2930 = .ok (.iconst 1, 1) := by decide +kernel
theorem dL_law_2931 : decode cL_law 2931 = .ok (.iadd, 1) := by decide +kernel
theorem dL_law_2932 : decode cL_law 2932 = .ok (.iaload, 1) := by decide +kernel
theorem dL_law_2933 : decode cL_law 2933 = .ok (.aload_n 3, 1) := by decide +kernel
theorem dL_law_2934 : decode cL_law 2934 = .ok (.invokestatic 362, 3) := by decide +kernel
theorem dL_law_2937 : decode cL_law 2937 = .ok (.istore 6, 2) := by decide +kernel
theorem dL_law_2939 : decode cL_law 2939 = .ok (.aload_n 2, 1) := by decide +kernel
theorem dL_law_2940 : decode cL_law 2940 = .ok (.aload_n 0, 1) := by decide +kernel
theorem dL_law_2941 : decode cL_law 2941 = .ok (.iload 5, 2) := by decide +kernel
theorem dL_law_2943 : decode cL_law 2943 = .ok (.iconst 1, 1) := by decide +kernel
theorem dL_law_2944 : decode cL_law 2944 = .ok (.iadd, 1) := by decide +kernel
theorem dL_law_2945 : decode cL_law 2945 = .ok (.iaload, 1) := by decide +kernel
theorem dL_law_2946 : decode cL_law 2946 = .ok (.invokevirtual 364, 3) := by decide +kernel
theorem dL_law_2949 : decode cL_law 2949 = .ok (.istore 7, 2) := by decide +kernel
theorem dL_law_2951 : decode cL_law 2951 = .ok (.aload_n 2, 1) := by decide +kernel
theorem dL_law_2952 : decode cL_law 2952 = .ok (.invokevirtual 211, 3) := by decide +kernel
theorem dL_law_2955 : decode cL_law 2955 = .ok (.iload 6, 2) := by decide +kernel
theorem dL_law_2957 : decode cL_law 2957 = .ok (.if_icmp .eq 5, 3) := by decide +kernel
theorem dL_law_2960 : decode cL_law 2960 = .ok (.iconst 0, 1) := by decide +kernel
theorem dL_law_2961 : decode cL_law 2961 = .ok (.ireturn, 1) := by decide +kernel
theorem dL_law_2962 : decode cL_law 2962 = .ok (.iload 6, 2) := by decide +kernel
theorem dL_law_2964 : decode cL_law 2964 = .ok (.ifCond .ne 15, 3) := by decide +kernel
theorem dL_law_2967 : decode cL_law 2967 = .ok (.aload_n 3, 1) := by decide +kernel
theorem dL_law_2968 : decode cL_law 2968 = .ok (.iconst 0, 1) := by decide +kernel
theorem dL_law_2969 : decode cL_law 2969 = .ok (.laload, 1) := by decide +kernel
theorem dL_law_2970 : decode cL_law 2970 = .ok (.iload 7, 2) := by decide +kernel
theorem dL_law_2972 : decode cL_law 2972 = .ok (.i2l, 1) := by decide +kernel
theorem dL_law_2973 : decode cL_law 2973 = .ok (.lcmp, 1) := by decide +kernel
theorem dL_law_2974 : decode cL_law 2974 = .ok (.ifCond .eq 5, 3) := by decide +kernel
theorem dL_law_2977 : decode cL_law 2977 = .ok (.iconst 0, 1) := by decide +kernel
theorem dL_law_2978 : decode cL_law 2978 = .ok (.ireturn, 1) := by decide +kernel
theorem dL_law_2979 : decode cL_law 2979 = .ok (.goto 936, 3) := by decide +kernel
theorem dL_law_2982 : decode cL_law 2982 = .ok (.aload_n 1, 1) := by decide +kernel
theorem dL_law_2983 : decode cL_law 2983 = .ok (.aload_n 0, 1) := by decide +kernel
theorem dL_law_2984 : decode cL_law 2984 = .ok (.iload 5, 2) := by decide +kernel
theorem dL_law_2986 : decode cL_law 2986 = .ok (.iconst 1, 1) := by decide +kernel
theorem dL_law_2987 : decode cL_law 2987 = .ok (.iadd, 1) := by decide +kernel
theorem dL_law_2988 : decode cL_law 2988 = .ok (.iaload, 1) := by decide +kernel
theorem dL_law_2989 : decode cL_law 2989 = .ok (.aload_n 0, 1) := by decide +kernel
theorem dL_law_2990 : decode cL_law 2990 = .ok (.iload 5, 2) := by decide +kernel
theorem dL_law_2992 : decode cL_law 2992 = .ok (.iconst 2, 1) := by decide +kernel
theorem dL_law_2993 : decode cL_law 2993 = .ok (.iadd, 1) := by decide +kernel
theorem dL_law_2994 : decode cL_law 2994 = .ok (.iaload, 1) := by decide +kernel
theorem dL_law_2995 : decode cL_law 2995 = .ok (.aload_n 0, 1) := by decide +kernel
theorem dL_law_2996 : decode cL_law 2996 = .ok (.iload 5, 2) := by decide +kernel
theorem dL_law_2998 : decode cL_law 2998 = .ok (.iconst 3, 1) := by decide +kernel
theorem dL_law_2999 : decode cL_law 2999 = .ok (.iadd, 1) := by decide +kernel
theorem dL_law_3000 : decode cL_law 3000 = .ok (.iaload, 1) := by decide +kernel
theorem dL_law_3001 : decode cL_law 3001 = .ok (.aload_n 3, 1) := by decide +kernel
theorem dL_law_3002 : decode cL_law 3002 = .ok (.invokestatic 365, 3) := by decide +kernel
theorem dL_law_3005 : decode cL_law 3005 = .ok (.istore 6, 2) := by decide +kernel
theorem dL_law_3007 : decode cL_law 3007 = .ok (.aload_n 2, 1) := by decide +kernel
theorem dL_law_3008 : decode cL_law 3008 = .ok (.aload_n 0, 1) := by decide +kernel
theorem dL_law_3009 : decode cL_law 3009 = .ok (.iload 5, 2) := by decide +kernel
theorem dL_law_3011 : decode cL_law 3011 = .ok (.iconst 1, 1) := by decide +kernel
theorem dL_law_3012 : decode cL_law 3012 = .ok (.iadd, 1) := by decide +kernel
theorem dL_law_3013 : decode cL_law 3013 = .ok (.iaload, 1) := by decide +kernel
theorem dL_law_3014 : decode cL_law 3014 = .ok (.aload_n 0, 1) := by decide +kernel
theorem dL_law_3015 : decode cL_law 3015 = .ok (.iload 5, 2) := by decide +kernel
theorem dL_law_3017 : decode cL_law 3017 = .ok (.iconst 2, 1) := by decide +kernel
theorem dL_law_3018 : decode cL_law 3018 = .ok (.iadd, 1) := by decide +kernel
theorem dL_law_3019 : decode cL_law 3019 = .ok (.iaload, 1) := by decide +kernel
theorem dL_law_3020 : decode cL_law 3020 = .ok (.aload_n 0, 1) := by decide +kernel
theorem dL_law_3021 : decode cL_law 3021 = .ok (.iload 5, 2) := by decide +kernel
theorem dL_law_3023 : decode cL_law 3023 = .ok (.iconst 3, 1) := by decide +kernel
theorem dL_law_3024 : decode cL_law 3024 = .ok (.iadd, 1) := by decide +kernel
theorem dL_law_3025 : decode cL_law 3025 = .ok (.iaload, 1) := by decide +kernel
theorem dL_law_3026 : decode cL_law 3026 = .ok (.invokevirtual 367, 3) := by decide +kernel
theorem dL_law_3029 : decode cL_law 3029 = .ok (.istore 7, 2) := by decide +kernel
theorem dL_law_3031 : decode cL_law 3031 = .ok (.aload_n 2, 1) := by decide +kernel
theorem dL_law_3032 : decode cL_law 3032 = .ok (.invokevirtual 211, 3) := by decide +kernel
theorem dL_law_3035 : decode cL_law 3035 = .ok (.iload 6, 2) := by decide +kernel
theorem dL_law_3037 : decode cL_law 3037 = .ok (.if_icmp .eq 5, 3) := by decide +kernel
theorem dL_law_3040 : decode cL_law 3040 = .ok (.iconst 0, 1) := by decide +kernel
theorem dL_law_3041 : decode cL_law 3041 = .ok (.ireturn, 1) := by decide +kernel
theorem dL_law_3042 : decode cL_law 3042 = .ok (.iload 6, 2) := by decide +kernel
theorem dL_law_3044 : decode cL_law 3044 = .ok (.ifCond .ne 15, 3) := by decide +kernel
theorem dL_law_3047 : decode cL_law 3047 = .ok (.aload_n 3, 1) := by decide +kernel
theorem dL_law_3048 : decode cL_law 3048 = .ok (.iconst 0, 1) := by decide +kernel
theorem dL_law_3049 : decode cL_law 3049 = .ok (.laload, 1) := by decide +kernel
theorem dL_law_3050 : decode cL_law 3050 = .ok (.iload 7, 2) := by decide +kernel
theorem dL_law_3052 : decode cL_law 3052 = .ok (.i2l, 1) := by decide +kernel
theorem dL_law_3053 : decode cL_law 3053 = .ok (.lcmp, 1) := by decide +kernel
theorem dL_law_3054 : decode cL_law 3054 = .ok (.ifCond .eq 5, 3) := by decide +kernel
theorem dL_law_3057 : decode cL_law 3057 = .ok (.iconst 0, 1) := by decide +kernel
theorem dL_law_3058 : decode cL_law 3058 = .ok (.ireturn, 1) := by decide +kernel
theorem dL_law_3059 : decode cL_law 3059 = .ok (.goto 856, 3) := by decide +kernel
theorem dL_law_3062 : decode cL_law 3062 = .ok (.aload_n 1, 1) := by decide +kernel
theorem dL_law_3063 : decode cL_law 3063 = .ok (.aload_n 0, 1) := by decide +kernel
theorem dL_law_3064 : decode cL_law 3064 = .ok (.iload 5, 2) := by decide +kernel
theorem dL_law_3066 : decode cL_law 3066 = .ok (.iconst 1, 1) := by decide +kernel
theorem dL_law_3067 : decode cL_law 3067 = .ok (.iadd, 1) := by decide +kernel
theorem dL_law_3068 : decode cL_law 3068 = .ok (.iaload, 1) := by decide +kernel
theorem dL_law_3069 : decode cL_law 3069 = .ok (.aload_n 0, 1) := by decide +kernel
theorem dL_law_3070 : decode cL_law 3070 = .ok (.iload 5, 2) := by decide +kernel
theorem dL_law_3072 : decode cL_law 3072 = .ok (.iconst 2, 1) := by decide +kernel
theorem dL_law_3073 : decode cL_law 3073 = .ok (.iadd, 1) := by decide +kernel
theorem dL_law_3074 : decode cL_law 3074 = .ok (.iaload, 1) := by decide +kernel
theorem dL_law_3075 : decode cL_law 3075 = .ok (.aload_n 3, 1) := by decide +kernel
theorem dL_law_3076 : decode cL_law 3076 = .ok (.invokestatic 368, 3) := by decide +kernel
theorem dL_law_3079 : decode cL_law 3079 = .ok (.istore 6, 2) := by decide +kernel
theorem dL_law_3081 : decode cL_law 3081 = .ok (.aload_n 2, 1) := by decide +kernel
theorem dL_law_3082 : decode cL_law 3082 = .ok (.aload_n 0, 1) := by decide +kernel
theorem dL_law_3083 : decode cL_law 3083 = .ok (.iload 5, 2) := by decide +kernel
theorem dL_law_3085 : decode cL_law 3085 = .ok (.iconst 1, 1) := by decide +kernel
theorem dL_law_3086 : decode cL_law 3086 = .ok (.iadd, 1) := by decide +kernel
theorem dL_law_3087 : decode cL_law 3087 = .ok (.iaload, 1) := by decide +kernel
theorem dL_law_3088 : decode cL_law 3088 = .ok (.aload_n 0, 1) := by decide +kernel
theorem dL_law_3089 : decode cL_law 3089 = .ok (.iload 5, 2) := by decide +kernel
theorem dL_law_3091 : decode cL_law 3091 = .ok (.iconst 2, 1) := by decide +kernel
theorem dL_law_3092 : decode cL_law 3092 = .ok (.iadd, 1) := by decide +kernel
theorem dL_law_3093 : decode cL_law 3093 = .ok (.iaload, 1) := by decide +kernel
theorem dL_law_3094 : decode cL_law 3094 = .ok (.invokevirtual 370, 3) := by decide +kernel
theorem dL_law_3097 : decode cL_law 3097 = .ok (.istore 7, 2) := by decide +kernel
theorem dL_law_3099 : decode cL_law 3099 = .ok (.aload_n 2, 1) := by decide +kernel
theorem dL_law_3100 : decode cL_law 3100 = .ok (.invokevirtual 211, 3) := by decide +kernel
theorem dL_law_3103 : decode cL_law 3103 = .ok (.iload 6, 2) := by decide +kernel
theorem dL_law_3105 : decode cL_law 3105 = .ok (.if_icmp .eq 5, 3) := by decide +kernel
theorem dL_law_3108 : decode cL_law 3108 = .ok (.iconst 0, 1) := by decide +kernel
theorem dL_law_3109 : decode cL_law 3109 = .ok (.ireturn, 1) := by decide +kernel
theorem dL_law_3110 : decode cL_law 3110 = .ok (.iload 6, 2) := by decide +kernel
theorem dL_law_3112 : decode cL_law 3112 = .ok (.ifCond .ne 15, 3) := by decide +kernel
theorem dL_law_3115 : decode cL_law 3115 = .ok (.aload_n 3, 1) := by decide +kernel
theorem dL_law_3116 : decode cL_law 3116 = .ok (.iconst 0, 1) := by decide +kernel
theorem dL_law_3117 : decode cL_law 3117 = .ok (.laload, 1) := by decide +kernel
theorem dL_law_3118 : decode cL_law 3118 = .ok (.iload 7, 2) := by decide +kernel
theorem dL_law_3120 : decode cL_law 3120 = .ok (.i2l, 1) := by decide +kernel
theorem dL_law_3121 : decode cL_law 3121 = .ok (.lcmp, 1) := by decide +kernel
theorem dL_law_3122 : decode cL_law 3122 = .ok (.ifCond .eq 5, 3) := by decide +kernel
theorem dL_law_3125 : decode cL_law 3125 = .ok (.iconst 0, 1) := by decide +kernel
theorem dL_law_3126 : decode cL_law 3126 = .ok (.ireturn, 1) := by decide +kernel
theorem dL_law_3127 : decode cL_law 3127 = .ok (.goto 788, 3) := by decide +kernel
theorem dL_law_3130 : decode cL_law 3130 = .ok (.aload_n 1, 1) := by decide +kernel
theorem dL_law_3131 : decode cL_law 3131 = .ok (.aload_n 0, 1) := by decide +kernel
theorem dL_law_3132 : decode cL_law 3132 = .ok (.iload 5, 2) := by decide +kernel
theorem dL_law_3134 : decode cL_law 3134 = .ok (.iconst 1, 1) := by decide +kernel
theorem dL_law_3135 : decode cL_law 3135 = .ok (.iadd, 1) := by decide +kernel
theorem dL_law_3136 : decode cL_law 3136 = .ok (.iaload, 1) := by decide +kernel
theorem dL_law_3137 : decode cL_law 3137 = .ok (.aload_n 0, 1) := by decide +kernel
theorem dL_law_3138 : decode cL_law 3138 = .ok (.iload 5, 2) := by decide +kernel
theorem dL_law_3140 : decode cL_law 3140 = .ok (.iconst 2, 1) := by decide +kernel
theorem dL_law_3141 : decode cL_law 3141 = .ok (.iadd, 1) := by decide +kernel
theorem dL_law_3142 : decode cL_law 3142 = .ok (.iaload, 1) := by decide +kernel
theorem dL_law_3143 : decode cL_law 3143 = .ok (.aload_n 0, 1) := by decide +kernel
theorem dL_law_3144 : decode cL_law 3144 = .ok (.iload 5, 2) := by decide +kernel
theorem dL_law_3146 : decode cL_law 3146 = .ok (.iconst 3, 1) := by decide +kernel
theorem dL_law_3147 : decode cL_law 3147 = .ok (.iadd, 1) := by decide +kernel
theorem dL_law_3148 : decode cL_law 3148 = .ok (.iaload, 1) := by decide +kernel
theorem dL_law_3149 : decode cL_law 3149 = .ok (.aload_n 3, 1) := by decide +kernel
theorem dL_law_3150 : decode cL_law 3150 = .ok (.invokestatic 371, 3) := by decide +kernel
theorem dL_law_3153 : decode cL_law 3153 = .ok (.istore 6, 2) := by decide +kernel
theorem dL_law_3155 : decode cL_law 3155 = .ok (.aload_n 2, 1) := by decide +kernel
theorem dL_law_3156 : decode cL_law 3156 = .ok (.aload_n 0, 1) := by decide +kernel
theorem dL_law_3157 : decode cL_law 3157 = .ok (.iload 5, 2) := by decide +kernel
theorem dL_law_3159 : decode cL_law 3159 = .ok (.iconst 1, 1) := by decide +kernel
theorem dL_law_3160 : decode cL_law 3160 = .ok (.iadd, 1) := by decide +kernel
theorem dL_law_3161 : decode cL_law 3161 = .ok (.iaload, 1) := by decide +kernel
theorem dL_law_3162 : decode cL_law 3162 = .ok (.aload_n 0, 1) := by decide +kernel
theorem dL_law_3163 : decode cL_law 3163 = .ok (.iload 5, 2) := by decide +kernel
theorem dL_law_3165 : decode cL_law 3165 = .ok (.iconst 2, 1) := by decide +kernel
theorem dL_law_3166 : decode cL_law 3166 = .ok (.iadd, 1) := by decide +kernel
theorem dL_law_3167 : decode cL_law 3167 = .ok (.iaload, 1) := by decide +kernel
theorem dL_law_3168 : decode cL_law 3168 = .ok (.aload_n 0, 1) := by decide +kernel
theorem dL_law_3169 : decode cL_law 3169 = .ok (.iload 5, 2) := by decide +kernel
theorem dL_law_3171 : decode cL_law 3171 = .ok (.iconst 3, 1) := by decide +kernel
theorem dL_law_3172 : decode cL_law 3172 = .ok (.iadd, 1) := by decide +kernel
theorem dL_law_3173 : decode cL_law 3173 = .ok (.iaload, 1) := by decide +kernel
theorem dL_law_3174 : decode cL_law 3174 = .ok (.invokevirtual 373, 3) := by decide +kernel
theorem dL_law_3177 : decode cL_law 3177 = .ok (.istore 7, 2) := by decide +kernel
theorem dL_law_3179 : decode cL_law 3179 = .ok (.aload_n 2, 1) := by decide +kernel
theorem dL_law_3180 : decode cL_law 3180 = .ok (.invokevirtual 211, 3) := by decide +kernel
theorem dL_law_3183 : decode cL_law 3183 = .ok (.iload 6, 2) := by decide +kernel
theorem dL_law_3185 : decode cL_law 3185 = .ok (.if_icmp .eq 5, 3) := by decide +kernel
theorem dL_law_3188 : decode cL_law 3188 = .ok (.iconst 0, 1) := by decide +kernel
theorem dL_law_3189 : decode cL_law 3189 = .ok (.ireturn, 1) := by decide +kernel
theorem dL_law_3190 : decode cL_law 3190 = .ok (.iload 6, 2) := by decide +kernel
theorem dL_law_3192 : decode cL_law 3192 = .ok (.ifCond .ne 15, 3) := by decide +kernel
theorem dL_law_3195 : decode cL_law 3195 = .ok (.aload_n 3, 1) := by decide +kernel
theorem dL_law_3196 : decode cL_law 3196 = .ok (.iconst 0, 1) := by decide +kernel
theorem dL_law_3197 : decode cL_law 3197 = .ok (.laload, 1) := by decide +kernel
theorem dL_law_3198 : decode cL_law 3198 = .ok (.iload 7, 2) := by decide +kernel
theorem dL_law_3200 : decode cL_law 3200 = .ok (.i2l, 1) := by decide +kernel
theorem dL_law_3201 : decode cL_law 3201 = .ok (.lcmp, 1) := by decide +kernel
theorem dL_law_3202 : decode cL_law 3202 = .ok (.ifCond .eq 5, 3) := by decide +kernel
theorem dL_law_3205 : decode cL_law 3205 = .ok (.iconst 0, 1) := by decide +kernel
theorem dL_law_3206 : decode cL_law 3206 = .ok (.ireturn, 1) := by decide +kernel
theorem dL_law_3207 : decode cL_law 3207 = .ok (.goto 708, 3) := by decide +kernel
theorem dL_law_3210 : decode cL_law 3210 = .ok (.aload_n 1, 1) := by decide +kernel
theorem dL_law_3211 : decode cL_law 3211 = .ok (.aload_n 0, 1) := by decide +kernel
theorem dL_law_3212 : decode cL_law 3212 = .ok (.iload 5, 2) := by decide +kernel
theorem dL_law_3214 : decode cL_law 3214 = .ok (.iconst 1, 1) := by decide +kernel
theorem dL_law_3215 : decode cL_law 3215 = .ok (.iadd, 1) := by decide +kernel
theorem dL_law_3216 : decode cL_law 3216 = .ok (.iaload, 1) := by decide +kernel
theorem dL_law_3217 : decode cL_law 3217 = .ok (.aload_n 0, 1) := by decide +kernel
theorem dL_law_3218 : decode cL_law 3218 = .ok (.iload 5, 2) := by decide +kernel
theorem dL_law_3220 : decode cL_law 3220 = .ok (.iconst 2, 1) := by decide +kernel
theorem dL_law_3221 : decode cL_law 3221 = .ok (.iadd, 1) := by decide +kernel
theorem dL_law_3222 : decode cL_law 3222 = .ok (.iaload, 1) := by decide +kernel
theorem dL_law_3223 : decode cL_law 3223 = .ok (.aload_n 3, 1) := by decide +kernel
theorem dL_law_3224 : decode cL_law 3224 = .ok (.invokestatic 374, 3) := by decide +kernel
theorem dL_law_3227 : decode cL_law 3227 = .ok (.istore 6, 2) := by decide +kernel
theorem dL_law_3229 : decode cL_law 3229 = .ok (.aload_n 2, 1) := by decide +kernel
theorem dL_law_3230 : decode cL_law 3230 = .ok (.aload_n 0, 1) := by decide +kernel
theorem dL_law_3231 : decode cL_law 3231 = .ok (.iload 5, 2) := by decide +kernel
theorem dL_law_3233 : decode cL_law 3233 = .ok (.iconst 1, 1) := by decide +kernel
theorem dL_law_3234 : decode cL_law 3234 = .ok (.iadd, 1) := by decide +kernel
theorem dL_law_3235 : decode cL_law 3235 = .ok (.iaload, 1) := by decide +kernel
theorem dL_law_3236 : decode cL_law 3236 = .ok (.aload_n 0, 1) := by decide +kernel
theorem dL_law_3237 : decode cL_law 3237 = .ok (.iload 5, 2) := by decide +kernel
theorem dL_law_3239 : decode cL_law 3239 = .ok (.iconst 2, 1) := by decide +kernel
theorem dL_law_3240 : decode cL_law 3240 = .ok (.iadd, 1) := by decide +kernel
theorem dL_law_3241 : decode cL_law 3241 = .ok (.iaload, 1) := by decide +kernel
theorem dL_law_3242 : decode cL_law 3242 = .ok (.invokevirtual 376, 3) := by decide +kernel
theorem dL_law_3245 : decode cL_law 3245 = .ok (.istore 7, 2) := by decide +kernel
theorem dL_law_3247 : decode cL_law 3247 = .ok (.aload_n 2, 1) := by decide +kernel
theorem dL_law_3248 : decode cL_law 3248 = .ok (.invokevirtual 211, 3) := by decide +kernel
theorem dL_law_3251 : decode cL_law 3251 = .ok (.iload 6, 2) := by decide +kernel
theorem dL_law_3253 : decode cL_law 3253 = .ok (.if_icmp .eq 5, 3) := by decide +kernel
theorem dL_law_3256 : decode cL_law 3256 = .ok (.iconst 0, 1) := by decide +kernel
theorem dL_law_3257 : decode cL_law 3257 = .ok (.ireturn, 1) := by decide +kernel
theorem dL_law_3258 : decode cL_law 3258 = .ok (.iload 6, 2) := by decide +kernel
theorem dL_law_3260 : decode cL_law 3260 = .ok (.ifCond .ne 15, 3) := by decide +kernel
theorem dL_law_3263 : decode cL_law 3263 = .ok (.aload_n 3, 1) := by decide +kernel
theorem dL_law_3264 : decode cL_law 3264 = .ok (.iconst 0, 1) := by decide +kernel
theorem dL_law_3265 : decode cL_law 3265 = .ok (.laload, 1) := by decide +kernel
theorem dL_law_3266 : decode cL_law 3266 = .ok (.iload 7, 2) := by decide +kernel
theorem dL_law_3268 : decode cL_law 3268 = .ok (.i2l, 1) := by decide +kernel
theorem dL_law_3269 : decode cL_law 3269 = .ok (.lcmp, 1) := by decide +kernel
theorem dL_law_3270 : decode cL_law 3270 = .ok (.ifCond .eq 5, 3) := by decide +kernel
theorem dL_law_3273 : decode cL_law 3273 = .ok (.iconst 0, 1) := by decide +kernel
theorem dL_law_3274 : decode cL_law 3274 = .ok (.ireturn, 1) := by decide +kernel
theorem dL_law_3275 : decode cL_law 3275 = .ok (.goto 640, 3) := by decide +kernel
theorem dL_law_3278 : decode cL_law 3278 = .ok (.aload_n 1, 1) := by decide +kernel
theorem dL_law_3279 : decode cL_law 3279 = .ok (.aload_n 0, 1) := by decide +kernel
theorem dL_law_3280 : decode cL_law 3280 = .ok (.iload 5, 2) := by decide +kernel
theorem dL_law_3282 : decode cL_law 3282 = .ok (.iconst 1, 1) := by decide +kernel
theorem dL_law_3283 : decode cL_law 3283 = .ok (.iadd, 1) := by decide +kernel
theorem dL_law_3284 : decode cL_law 3284 = .ok (.iaload, 1) := by decide +kernel
theorem dL_law_3285 : decode cL_law 3285 = .ok (.aload_n 0, 1) := by decide +kernel
theorem dL_law_3286 : decode cL_law 3286 = .ok (.iload 5, 2) := by decide +kernel
theorem dL_law_3288 : decode cL_law 3288 = .ok (.iconst 2, 1) := by decide +kernel
theorem dL_law_3289 : decode cL_law 3289 = .ok (.iadd, 1) := by decide +kernel
theorem dL_law_3290 : decode cL_law 3290 = .ok (.iaload, 1) := by decide +kernel
theorem dL_law_3291 : decode cL_law 3291 = .ok (.aload_n 0, 1) := by decide +kernel
theorem dL_law_3292 : decode cL_law 3292 = .ok (.iload 5, 2) := by decide +kernel
theorem dL_law_3294 : decode cL_law 3294 = .ok (.iconst 3, 1) := by decide +kernel
theorem dL_law_3295 : decode cL_law 3295 = .ok (.iadd, 1) := by decide +kernel
theorem dL_law_3296 : decode cL_law 3296 = .ok (.iaload, 1) := by decide +kernel
theorem dL_law_3297 : decode cL_law 3297 = .ok (.aload_n 3, 1) := by decide +kernel
theorem dL_law_3298 : decode cL_law 3298 = .ok (.invokestatic 377, 3) := by decide +kernel
theorem dL_law_3301 : decode cL_law 3301 = .ok (.istore 6, 2) := by decide +kernel
theorem dL_law_3303 : decode cL_law 3303 = .ok (.aload_n 2, 1) := by decide +kernel
theorem dL_law_3304 : decode cL_law 3304 = .ok (.aload_n 0, 1) := by decide +kernel
theorem dL_law_3305 : decode cL_law 3305 = .ok (.iload 5, 2) := by decide +kernel
theorem dL_law_3307 : decode cL_law 3307 = .ok (.iconst 1, 1) := by decide +kernel
theorem dL_law_3308 : decode cL_law 3308 = .ok (.iadd, 1) := by decide +kernel
theorem dL_law_3309 : decode cL_law 3309 = .ok (.iaload, 1) := by decide +kernel
theorem dL_law_3310 : decode cL_law 3310 = .ok (.aload_n 0, 1) := by decide +kernel
theorem dL_law_3311 : decode cL_law 3311 = .ok (.iload 5, 2) := by decide +kernel
theorem dL_law_3313 : decode cL_law 3313 = .ok (.iconst 2, 1) := by decide +kernel
theorem dL_law_3314 : decode cL_law 3314 = .ok (.iadd, 1) := by decide +kernel
theorem dL_law_3315 : decode cL_law 3315 = .ok (.iaload, 1) := by decide +kernel
theorem dL_law_3316 : decode cL_law 3316 = .ok (.aload_n 0, 1) := by decide +kernel
theorem dL_law_3317 : decode cL_law 3317 = .ok (.iload 5, 2) := by decide +kernel
theorem dL_law_3319 : decode cL_law 3319 = .ok (.iconst 3, 1) := by decide +kernel
theorem dL_law_3320 : decode cL_law 3320 = .ok (.iadd, 1) := by decide +kernel
theorem dL_law_3321 : decode cL_law 3321 = .ok (.iaload, 1) := by decide +kernel
theorem dL_law_3322 : decode cL_law 3322 = .ok (.invokevirtual 379, 3) := by decide +kernel
theorem dL_law_3325 : decode cL_law 3325 = .ok (.istore 7, 2) := by decide +kernel
theorem dL_law_3327 : decode cL_law 3327 = .ok (.aload_n 2, 1) := by decide +kernel
theorem dL_law_3328 : decode cL_law 3328 = .ok (.invokevirtual 211, 3) := by decide +kernel
theorem dL_law_3331 : decode cL_law 3331 = .ok (.iload 6, 2) := by decide +kernel
theorem dL_law_3333 : decode cL_law 3333 = .ok (.if_icmp .eq 5, 3) := by decide +kernel
theorem dL_law_3336 : decode cL_law 3336 = .ok (.iconst 0, 1) := by decide +kernel
theorem dL_law_3337 : decode cL_law 3337 = .ok (.ireturn, 1) := by decide +kernel
theorem dL_law_3338 : decode cL_law 3338 = .ok (.iload 6, 2) := by decide +kernel
theorem dL_law_3340 : decode cL_law 3340 = .ok (.ifCond .ne 15, 3) := by decide +kernel
theorem dL_law_3343 : decode cL_law 3343 = .ok (.aload_n 3, 1) := by decide +kernel
theorem dL_law_3344 : decode cL_law 3344 = .ok (.iconst 0, 1) := by decide +kernel
theorem dL_law_3345 : decode cL_law 3345 = .ok (.laload, 1) := by decide +kernel
theorem dL_law_3346 : decode cL_law 3346 = .ok (.iload 7, 2) := by decide +kernel
theorem dL_law_3348 : decode cL_law 3348 = .ok (.i2l, 1) := by decide +kernel
theorem dL_law_3349 : decode cL_law 3349 = .ok (.lcmp, 1) := by decide +kernel
theorem dL_law_3350 : decode cL_law 3350 = .ok (.ifCond .eq 5, 3) := by decide +kernel
theorem dL_law_3353 : decode cL_law 3353 = .ok (.iconst 0, 1) := by decide +kernel
theorem dL_law_3354 : decode cL_law 3354 = .ok (.ireturn, 1) := by decide +kernel
theorem dL_law_3355 : decode cL_law 3355 = .ok (.goto 560, 3) := by decide +kernel
theorem dL_law_3358 : decode cL_law 3358 = .ok (.aload_n 1, 1) := by decide +kernel
theorem dL_law_3359 : decode cL_law 3359 = .ok (.aload_n 0, 1) := by decide +kernel
theorem dL_law_3360 : decode cL_law 3360 = .ok (.iload 5, 2) := by decide +kernel
theorem dL_law_3362 : decode cL_law 3362 = .ok (.iconst 1, 1) := by decide +kernel
theorem dL_law_3363 : decode cL_law 3363 = .ok (.iadd, 1) := by decide +kernel
theorem dL_law_3364 : decode cL_law 3364 = .ok (.iaload, 1) := by decide +kernel
theorem dL_law_3365 : decode cL_law 3365 = .ok (.aload_n 3, 1) := by decide +kernel
theorem dL_law_3366 : decode cL_law 3366 = .ok (.invokestatic 380, 3) := by decide +kernel
theorem dL_law_3369 : decode cL_law 3369 = .ok (.istore 6, 2) := by decide +kernel
theorem dL_law_3371 : decode cL_law 3371 = .ok (.aload_n 2, 1) := by decide +kernel
theorem dL_law_3372 : decode cL_law 3372 = .ok (.aload_n 0, 1) := by decide +kernel
theorem dL_law_3373 : decode cL_law 3373 = .ok (.iload 5, 2) := by decide +kernel
theorem dL_law_3375 : decode cL_law 3375 = .ok (.iconst 1, 1) := by decide +kernel
theorem dL_law_3376 : decode cL_law 3376 = .ok (.iadd, 1) := by decide +kernel
theorem dL_law_3377 : decode cL_law 3377 = .ok (.iaload, 1) := by decide +kernel
theorem dL_law_3378 : decode cL_law 3378 = .ok (.invokevirtual 382, 3) := by decide +kernel
theorem dL_law_3381 : decode cL_law 3381 = .ok (.istore 7, 2) := by decide +kernel
theorem dL_law_3383 : decode cL_law 3383 = .ok (.aload_n 2, 1) := by decide +kernel
theorem dL_law_3384 : decode cL_law 3384 = .ok (.invokevirtual 211, 3) := by decide +kernel
theorem dL_law_3387 : decode cL_law 3387 = .ok (.iload 6, 2) := by decide +kernel
theorem dL_law_3389 : decode cL_law 3389 = .ok (.if_icmp .eq 5, 3) := by decide +kernel
theorem dL_law_3392 : decode cL_law 3392 = .ok (.iconst 0, 1) := by decide +kernel
theorem dL_law_3393 : decode cL_law 3393 = .ok (.ireturn, 1) := by decide +kernel
theorem dL_law_3394 : decode cL_law 3394 = .ok (.iload 6, 2) := by decide +kernel
theorem dL_law_3396 : decode cL_law 3396 = .ok (.ifCond .ne 15, 3) := by decide +kernel
theorem dL_law_3399 : decode cL_law 3399 = .ok (.aload_n 3, 1) := by decide +kernel
theorem dL_law_3400 : decode cL_law 3400 = .ok (.iconst 0, 1) := by decide +kernel
theorem dL_law_3401 : decode cL_law 3401 = .ok (.laload, 1) := by decide +kernel
theorem dL_law_3402 : decode cL_law 3402 = .ok (.iload 7, 2) := by decide +kernel
theorem dL_law_3404 : decode cL_law 3404 = .ok (.i2l, 1) := by decide +kernel
theorem dL_law_3405 : decode cL_law 3405 = .ok (.lcmp, 1) := by decide +kernel
theorem dL_law_3406 : decode cL_law 3406 = .ok (.ifCond .eq 5, 3) := by decide +kernel
theorem dL_law_3409 : decode cL_law 3409 = .ok (.iconst 0, 1) := by decide +kernel
theorem dL_law_3410 : decode cL_law 3410 = .ok (.ireturn, 1) := by decide +kernel
theorem dL_law_3411 : decode cL_law 3411 = .ok (.goto 504, 3) := by decide +kernel
theorem dL_law_3414 : decode cL_law 3414 = .ok (.aload_n 1, 1) := by decide +kernel
theorem dL_law_3415 : decode cL_law 3415 = .ok (.aload_n 0, 1) := by decide +kernel
theorem dL_law_3416 : decode cL_law 3416 = .ok (.iload 5, 2) := by decide +kernel
theorem dL_law_3418 : decode cL_law 3418 = .ok (.iconst 1, 1) := by decide +kernel
theorem dL_law_3419 : decode cL_law 3419 = .ok (.iadd, 1) := by decide +kernel
theorem dL_law_3420 : decode cL_law 3420 = .ok (.iaload, 1) := by decide +kernel
theorem dL_law_3421 : decode cL_law 3421 = .ok (.aload_n 3, 1) := by decide +kernel
theorem dL_law_3422 : decode cL_law 3422 = .ok (.invokestatic 383, 3) := by decide +kernel
theorem dL_law_3425 : decode cL_law 3425 = .ok (.istore 6, 2) := by decide +kernel
theorem dL_law_3427 : decode cL_law 3427 = .ok (.aload_n 2, 1) := by decide +kernel
theorem dL_law_3428 : decode cL_law 3428 = .ok (.aload_n 0, 1) := by decide +kernel
theorem dL_law_3429 : decode cL_law 3429 = .ok (.iload 5, 2) := by decide +kernel
theorem dL_law_3431 : decode cL_law 3431 = .ok (.iconst 1, 1) := by decide +kernel
theorem dL_law_3432 : decode cL_law 3432 = .ok (.iadd, 1) := by decide +kernel
theorem dL_law_3433 : decode cL_law 3433 = .ok (.iaload, 1) := by decide +kernel
theorem dL_law_3434 : decode cL_law 3434 = .ok (.invokevirtual 385, 3) := by decide +kernel
theorem dL_law_3437 : decode cL_law 3437 = .ok (.istore 7, 2) := by decide +kernel
theorem dL_law_3439 : decode cL_law 3439 = .ok (.aload_n 2, 1) := by decide +kernel
theorem dL_law_3440 : decode cL_law 3440 = .ok (.invokevirtual 211, 3) := by decide +kernel
theorem dL_law_3443 : decode cL_law 3443 = .ok (.iload 6, 2) := by decide +kernel
theorem dL_law_3445 : decode cL_law 3445 = .ok (.if_icmp .eq 5, 3) := by decide +kernel
theorem dL_law_3448 : decode cL_law 3448 = .ok (.iconst 0, 1) := by decide +kernel
theorem dL_law_3449 : decode cL_law 3449 = .ok (.ireturn, 1) := by decide +kernel
theorem dL_law_3450 : decode cL_law 3450 = .ok (.iload 6, 2) := by decide +kernel
theorem dL_law_3452 : decode cL_law 3452 = .ok (.ifCond .ne 15, 3) := by decide +kernel
theorem dL_law_3455 : decode cL_law 3455 = .ok (.aload_n 3, 1) := by decide +kernel
theorem dL_law_3456 : decode cL_law 3456 = .ok (.iconst 0, 1) := by decide +kernel
theorem dL_law_3457 : decode cL_law 3457 = .ok (.laload, 1) := by decide +kernel
theorem dL_law_3458 : decode cL_law 3458 = .ok (.iload 7, 2) := by decide +kernel
theorem dL_law_3460 : decode cL_law 3460 = .ok (.i2l, 1) := by decide +kernel
theorem dL_law_3461 : decode cL_law 3461 = .ok (.lcmp, 1) := by decide +kernel
theorem dL_law_3462 : decode cL_law 3462 = .ok (.ifCond .eq 5, 3) := by decide +kernel
theorem dL_law_3465 : decode cL_law 3465 = .ok (.iconst 0, 1) := by decide +kernel
theorem dL_law_3466 : decode cL_law 3466 = .ok (.ireturn, 1) := by decide +kernel
theorem dL_law_3467 : decode cL_law 3467 = .ok (.goto 448, 3) := by decide +kernel
theorem dL_law_3470 : decode cL_law 3470 = .ok (.aload_n 1, 1) := by decide +kernel
theorem dL_law_3471 : decode cL_law 3471 = .ok (.aload_n 0, 1) := by decide +kernel
theorem dL_law_3472 : decode cL_law 3472 = .ok (.iload 5, 2) := by decide +kernel
theorem dL_law_3474 : decode cL_law 3474 = .ok (.iconst 1, 1) := by decide +kernel
theorem dL_law_3475 : decode cL_law 3475 = .ok (.iadd, 1) := by decide +kernel
theorem dL_law_3476 : decode cL_law 3476 = .ok (.iaload, 1) := by decide +kernel
theorem dL_law_3477 : decode cL_law 3477 = .ok (.aload_n 0, 1) := by decide +kernel
theorem dL_law_3478 : decode cL_law 3478 = .ok (.iload 5, 2) := by decide +kernel
theorem dL_law_3480 : decode cL_law 3480 = .ok (.iconst 2, 1) := by decide +kernel
theorem dL_law_3481 : decode cL_law 3481 = .ok (.iadd, 1) := by decide +kernel
theorem dL_law_3482 : decode cL_law 3482 = .ok (.iaload, 1) := by decide +kernel
theorem dL_law_3483 : decode cL_law 3483 = .ok (.aload_n 3, 1) := by decide +kernel
theorem dL_law_3484 : decode cL_law 3484 = .ok (.invokestatic 386, 3) := by decide +kernel
theorem dL_law_3487 : decode cL_law 3487 = .ok (.istore 6, 2) := by decide +kernel
theorem dL_law_3489 : decode cL_law 3489 = .ok (.aload_n 2, 1) := by decide +kernel
theorem dL_law_3490 : decode cL_law 3490 = .ok (.aload_n 0, 1) := by decide +kernel
theorem dL_law_3491 : decode cL_law 3491 = .ok (.iload 5, 2) := by decide +kernel
theorem dL_law_3493 : decode cL_law 3493 = .ok (.iconst 1, 1) := by decide +kernel
theorem dL_law_3494 : decode cL_law 3494 = .ok (.iadd, 1) := by decide +kernel
theorem dL_law_3495 : decode cL_law 3495 = .ok (.iaload, 1) := by decide +kernel
theorem dL_law_3496 : decode cL_law 3496 = .ok (.aload_n 0, 1) := by decide +kernel
theorem dL_law_3497 : decode cL_law 3497 = .ok (.iload 5, 2) := by decide +kernel
theorem dL_law_3499 : decode cL_law 3499 = .ok (.iconst 2, 1) := by decide +kernel
theorem dL_law_3500 : decode cL_law 3500 = .ok (.iadd, 1) := by decide +kernel
theorem dL_law_3501 : decode cL_law 3501 = .ok (.iaload, 1) := by decide +kernel
theorem dL_law_3502 : decode cL_law 3502 = .ok (.invokevirtual 388, 3) := by decide +kernel
theorem dL_law_3505 : decode cL_law 3505 = .ok (.istore 7, 2) := by decide +kernel
theorem dL_law_3507 : decode cL_law 3507 = .ok (.aload_n 2, 1) := by decide +kernel
theorem dL_law_3508 : decode cL_law 3508 = .ok (.invokevirtual 211, 3) := by decide +kernel
theorem dL_law_3511 : decode cL_law 3511 = .ok (.iload 6, 2) := by decide +kernel
theorem dL_law_3513 : decode cL_law 3513 = .ok (.if_icmp .eq 5, 3) := by decide +kernel
theorem dL_law_3516 : decode cL_law 3516 = .ok (.iconst 0, 1) := by decide +kernel
theorem dL_law_3517 : decode cL_law 3517 = .ok (.ireturn, 1) := by decide +kernel
theorem dL_law_3518 : decode cL_law 3518 = .ok (.iload 6, 2) := by decide +kernel
theorem dL_law_3520 : decode cL_law 3520 = .ok (.ifCond .ne 15, 3) := by decide +kernel
theorem dL_law_3523 : decode cL_law 3523 = .ok (.aload_n 3, 1) := by decide +kernel
theorem dL_law_3524 : decode cL_law 3524 = .ok (.iconst 0, 1) := by decide +kernel
theorem dL_law_3525 : decode cL_law 3525 = .ok (.laload, 1) := by decide +kernel
theorem dL_law_3526 : decode cL_law 3526 = .ok (.iload 7, 2) := by decide +kernel
theorem dL_law_3528 : decode cL_law 3528 = .ok (.i2l, 1) := by decide +kernel
theorem dL_law_3529 : decode cL_law 3529 = .ok (.lcmp, 1) := by decide +kernel
theorem dL_law_3530 : decode cL_law 3530 = .ok (.ifCond .eq 5, 3) := by decide +kernel
theorem dL_law_3533 : decode cL_law 3533 = .ok (.iconst 0, 1) := by decide +kernel
theorem dL_law_3534 : decode cL_law 3534 = .ok (.ireturn, 1) := by decide +kernel
theorem dL_law_3535 : decode cL_law 3535 = .ok (.goto 380, 3) := by decide +kernel
theorem dL_law_3538 : decode cL_law 3538 = .ok (.aload_n 1, 1) := by decide +kernel
theorem dL_law_3539 : decode cL_law 3539 = .ok (.aload_n 0, 1) := by decide +kernel
theorem dL_law_3540 : decode cL_law 3540 = .ok (.iload 5, 2) := by decide +kernel
theorem dL_law_3542 : decode cL_law 3542 = .ok (.iconst 1, 1) := by decide +kernel
theorem dL_law_3543 : decode cL_law 3543 = .ok (.iadd, 1) := by decide +kernel
theorem dL_law_3544 : decode cL_law 3544 = .ok (.iaload, 1) := by decide +kernel
theorem dL_law_3545 : decode cL_law 3545 = .ok (.aload_n 3, 1) := by decide +kernel
theorem dL_law_3546 : decode cL_law 3546 = .ok (.invokestatic 389, 3) := by decide +kernel
theorem dL_law_3549 : decode cL_law 3549 = .ok (.istore 6, 2) := by decide +kernel
theorem dL_law_3551 : decode cL_law 3551 = .ok (.aload_n 2, 1) := by decide +kernel
theorem dL_law_3552 : decode cL_law 3552 = .ok (.aload_n 0, 1) := by decide +kernel
theorem dL_law_3553 : decode cL_law 3553 = .ok (.iload 5, 2) := by decide +kernel
theorem dL_law_3555 : decode cL_law 3555 = .ok (.iconst 1, 1) := by decide +kernel
theorem dL_law_3556 : decode cL_law 3556 = .ok (.iadd, 1) := by decide +kernel
theorem dL_law_3557 : decode cL_law 3557 = .ok (.iaload, 1) := by decide +kernel
theorem dL_law_3558 : decode cL_law 3558 = .ok (.invokevirtual 391, 3) := by decide +kernel
theorem dL_law_3561 : decode cL_law 3561 = .ok (.istore 7, 2) := by decide +kernel
theorem dL_law_3563 : decode cL_law 3563 = .ok (.aload_n 2, 1) := by decide +kernel
theorem dL_law_3564 : decode cL_law 3564 = .ok (.invokevirtual 211, 3) := by decide +kernel
theorem dL_law_3567 : decode cL_law 3567 = .ok (.iload 6, 2) := by decide +kernel
theorem dL_law_3569 : decode cL_law 3569 = .ok (.if_icmp .eq 5, 3) := by decide +kernel
theorem dL_law_3572 : decode cL_law 3572 = .ok (.iconst 0, 1) := by decide +kernel
theorem dL_law_3573 : decode cL_law 3573 = .ok (.ireturn, 1) := by decide +kernel
theorem dL_law_3574 : decode cL_law 3574 = .ok (.iload 6, 2) := by decide +kernel
theorem dL_law_3576 : decode cL_law 3576 = .ok (.ifCond .ne 15, 3) := by decide +kernel
theorem dL_law_3579 : decode cL_law 3579 = .ok (.aload_n 3, 1) := by decide +kernel
theorem dL_law_3580 : decode cL_law 3580 = .ok (.iconst 0, 1) := by decide +kernel
theorem dL_law_3581 : decode cL_law 3581 = .ok (.laload, 1) := by decide +kernel
theorem dL_law_3582 : decode cL_law 3582 = .ok (.iload 7, 2) := by decide +kernel
theorem dL_law_3584 : decode cL_law 3584 = .ok (.i2l, 1) := by decide +kernel
theorem dL_law_3585 : decode cL_law 3585 = .ok (.lcmp, 1) := by decide +kernel
theorem dL_law_3586 : decode cL_law 3586 = .ok (.ifCond .eq 5, 3) := by decide +kernel
theorem dL_law_3589 : decode cL_law 3589 = .ok (.iconst 0, 1) := by decide +kernel
theorem dL_law_3590 : decode cL_law 3590 = .ok (.ireturn, 1) := by decide +kernel
theorem dL_law_3591 : decode cL_law 3591 = .ok (.goto 324, 3) := by decide +kernel
theorem dL_law_3594 : decode cL_law 3594 = .ok (.aload_n 1, 1) := by decide +kernel
theorem dL_law_3595 : decode cL_law 3595 = .ok (.aload_n 0, 1) := by decide +kernel
theorem dL_law_3596 : decode cL_law 3596 = .ok (.iload 5, 2) := by decide +kernel
theorem dL_law_3598 : decode cL_law 3598 = .ok (.iconst 1, 1) := by decide +kernel
theorem dL_law_3599 : decode cL_law 3599 = .ok (.iadd, 1) := by decide +kernel
theorem dL_law_3600 : decode cL_law 3600 = .ok (.iaload, 1) := by decide +kernel
theorem dL_law_3601 : decode cL_law 3601 = .ok (.aload_n 0, 1) := by decide +kernel
theorem dL_law_3602 : decode cL_law 3602 = .ok (.iload 5, 2) := by decide +kernel
theorem dL_law_3604 : decode cL_law 3604 = .ok (.iconst 2, 1) := by decide +kernel
theorem dL_law_3605 : decode cL_law 3605 = .ok (.iadd, 1) := by decide +kernel
theorem dL_law_3606 : decode cL_law 3606 = .ok (.iaload, 1) := by decide +kernel
theorem dL_law_3607 : decode cL_law 3607 = .ok (.ifCond .eq 7, 3) := by decide +kernel
theorem dL_law_3610 : decode cL_law 3610 = .ok (.iconst 1, 1) := by decide +kernel
theorem dL_law_3611 : decode cL_law 3611 = .ok (.goto 4, 3) := by decide +kernel
theorem dL_law_3614 : decode cL_law 3614 = .ok (.iconst 0, 1) := by decide +kernel
theorem dL_law_3615 : decode cL_law 3615 = .ok (.aload_n 3, 1) := by decide +kernel
theorem dL_law_3616 : decode cL_law 3616 = .ok (.invokestatic 392, 3) := by decide +kernel
theorem dL_law_3619 : decode cL_law 3619 = .ok (.istore 6, 2) := by decide +kernel
theorem dL_law_3621 : decode cL_law 3621 = .ok (.aload_n 2, 1) := by decide +kernel
theorem dL_law_3622 : decode cL_law 3622 = .ok (.aload_n 0, 1) := by decide +kernel
theorem dL_law_3623 : decode cL_law 3623 = .ok (.iload 5, 2) := by decide +kernel
theorem dL_law_3625 : decode cL_law 3625 = .ok (.iconst 1, 1) := by decide +kernel
theorem dL_law_3626 : decode cL_law 3626 = .ok (.iadd, 1) := by decide +kernel
theorem dL_law_3627 : decode cL_law 3627 = .ok (.iaload, 1) := by decide +kernel
theorem dL_law_3628 : decode cL_law 3628 = .ok (.aload_n 0, 1) := by decide +kernel
theorem dL_law_3629 : decode cL_law 3629 = .ok (.iload 5, 2) := by decide +kernel
theorem dL_law_3631 : decode cL_law 3631 = .ok (.iconst 2, 1) := by decide +kernel
theorem dL_law_3632 : decode cL_law 3632 = .ok (.iadd, 1) := by decide +kernel
theorem dL_law_3633 : decode cL_law 3633 = .ok (.iaload, 1) := by decide +kernel
theorem dL_law_3634 : decode cL_law 3634 = .ok (.ifCond .eq 7, 3) := by decide +kernel
theorem dL_law_3637 : decode cL_law 3637 = .ok (.iconst 1, 1) := by decide +kernel
theorem dL_law_3638 : decode cL_law 3638 = .ok (.goto 4, 3) := by decide +kernel
theorem dL_law_3641 : decode cL_law 3641 = .ok (.iconst 0, 1) := by decide +kernel
theorem dL_law_3642 : decode cL_law 3642 = .ok (.invokevirtual 394, 3) := by decide +kernel
theorem dL_law_3645 : decode cL_law 3645 = .ok (.istore 7, 2) := by decide +kernel
theorem dL_law_3647 : decode cL_law 3647 = .ok (.aload_n 2, 1) := by decide +kernel
theorem dL_law_3648 : decode cL_law 3648 = .ok (.invokevirtual 211, 3) := by decide +kernel
theorem dL_law_3651 : decode cL_law 3651 = .ok (.iload 6, 2) := by decide +kernel
theorem dL_law_3653 : decode cL_law 3653 = .ok (.if_icmp .eq 5, 3) := by decide +kernel
theorem dL_law_3656 : decode cL_law 3656 = .ok (.iconst 0, 1) := by decide +kernel
theorem dL_law_3657 : decode cL_law 3657 = .ok (.ireturn, 1) := by decide +kernel
theorem dL_law_3658 : decode cL_law 3658 = .ok (.iload 6, 2) := by decide +kernel
theorem dL_law_3660 : decode cL_law 3660 = .ok (.ifCond .ne 15, 3) := by decide +kernel
theorem dL_law_3663 : decode cL_law 3663 = .ok (.aload_n 3, 1) := by decide +kernel
theorem dL_law_3664 : decode cL_law 3664 = .ok (.iconst 0, 1) := by decide +kernel
theorem dL_law_3665 : decode cL_law 3665 = .ok (.laload, 1) := by decide +kernel
theorem dL_law_3666 : decode cL_law 3666 = .ok (.iload 7, 2) := by decide +kernel
theorem dL_law_3668 : decode cL_law 3668 = .ok (.i2l, 1) := by decide +kernel
theorem dL_law_3669 : decode cL_law 3669 = .ok (.lcmp, 1) := by decide +kernel
theorem dL_law_3670 : decode cL_law 3670 = .ok (.ifCond .eq 5, 3) := by decide +kernel
theorem dL_law_3673 : decode cL_law 3673 = .ok (.iconst 0, 1) := by decide +kernel
theorem dL_law_3674 : decode cL_law 3674 = .ok (.ireturn, 1) := by decide +kernel
theorem dL_law_3675 : decode cL_law 3675 = .ok (.goto 240, 3) := by decide +kernel
theorem dL_law_3678 : decode cL_law 3678 = .ok (.aload_n 1, 1) := by decide +kernel
theorem dL_law_3679 : decode cL_law 3679 = .ok (.aload_n 0, 1) := by decide +kernel
theorem dL_law_3680 : decode cL_law 3680 = .ok (.iload 5, 2) := by decide +kernel
theorem dL_law_3682 : decode cL_law 3682 = .ok (.iconst 1, 1) := by decide +kernel
theorem dL_law_3683 : decode cL_law 3683 = .ok (.iadd, 1) := by decide +kernel
theorem dL_law_3684 : decode cL_law 3684 = .ok (.iaload, 1) := by decide +kernel
theorem dL_law_3685 : decode cL_law 3685 = .ok (.aload_n 0, 1) := by decide +kernel
theorem dL_law_3686 : decode cL_law 3686 = .ok (.iload 5, 2) := by decide +kernel
theorem dL_law_3688 : decode cL_law 3688 = .ok (.iconst 2, 1) := by decide +kernel
theorem dL_law_3689 : decode cL_law 3689 = .ok (.iadd, 1) := by decide +kernel
theorem dL_law_3690 : decode cL_law 3690 = .ok (.iaload, 1) := by decide +kernel
theorem dL_law_3691 : decode cL_law 3691 = .ok (.aload_n 3, 1) := by decide +kernel
theorem dL_law_3692 : decode cL_law 3692 = .ok (.invokestatic 395, 3) := by decide +kernel
theorem dL_law_3695 : decode cL_law 3695 = .ok (.istore 6, 2) := by decide +kernel
theorem dL_law_3697 : decode cL_law 3697 = .ok (.aload_n 2, 1) := by decide +kernel
theorem dL_law_3698 : decode cL_law 3698 = .ok (.aload_n 0, 1) := by decide +kernel
theorem dL_law_3699 : decode cL_law 3699 = .ok (.iload 5, 2) := by decide +kernel
theorem dL_law_3701 : decode cL_law 3701 = .ok (.iconst 1, 1) := by decide +kernel
theorem dL_law_3702 : decode cL_law 3702 = .ok (.iadd, 1) := by decide +kernel
theorem dL_law_3703 : decode cL_law 3703 = .ok (.iaload, 1) := by decide +kernel
theorem dL_law_3704 : decode cL_law 3704 = .ok (.aload_n 0, 1) := by decide +kernel
theorem dL_law_3705 : decode cL_law 3705 = .ok (.iload 5, 2) := by decide +kernel
theorem dL_law_3707 : decode cL_law 3707 = .ok (.iconst 2, 1) := by decide +kernel
theorem dL_law_3708 : decode cL_law 3708 = .ok (.iadd, 1) := by decide +kernel
theorem dL_law_3709 : decode cL_law 3709 = .ok (.iaload, 1) := by decide +kernel
theorem dL_law_3710 : decode cL_law 3710 = .ok (.invokevirtual 397, 3) := by decide +kernel
theorem dL_law_3713 : decode cL_law 3713 = .ok (.istore 7, 2) := by decide +kernel
theorem dL_law_3715 : decode cL_law 3715 = .ok (.aload_n 2, 1) := by decide +kernel
theorem dL_law_3716 : decode cL_law 3716 = .ok (.invokevirtual 211, 3) := by decide +kernel
theorem dL_law_3719 : decode cL_law 3719 = .ok (.iload 6, 2) := by decide +kernel
theorem dL_law_3721 : decode cL_law 3721 = .ok (.if_icmp .eq 5, 3) := by decide +kernel
theorem dL_law_3724 : decode cL_law 3724 = .ok (.iconst 0, 1) := by decide +kernel
theorem dL_law_3725 : decode cL_law 3725 = .ok (.ireturn, 1) := by decide +kernel
theorem dL_law_3726 : decode cL_law 3726 = .ok (.iload 6, 2) := by decide +kernel
theorem dL_law_3728 : decode cL_law 3728 = .ok (.ifCond .ne 15, 3) := by decide +kernel
theorem dL_law_3731 : decode cL_law 3731 = .ok (.aload_n 3, 1) := by decide +kernel
theorem dL_law_3732 : decode cL_law 3732 = .ok (.iconst 0, 1) := by decide +kernel
theorem dL_law_3733 : decode cL_law 3733 = .ok (.laload, 1) := by decide +kernel
theorem dL_law_3734 : decode cL_law 3734 = .ok (.iload 7, 2) := by decide +kernel
theorem dL_law_3736 : decode cL_law 3736 = .ok (.i2l, 1) := by decide +kernel
theorem dL_law_3737 : decode cL_law 3737 = .ok (.lcmp, 1) := by decide +kernel
theorem dL_law_3738 : decode cL_law 3738 = .ok (.ifCond .eq 5, 3) := by decide +kernel
theorem dL_law_3741 : decode cL_law 3741 = .ok (.iconst 0, 1) := by decide +kernel
theorem dL_law_3742 : decode cL_law 3742 = .ok (.ireturn, 1) := by decide +kernel
theorem dL_law_3743 : decode cL_law 3743 = .ok (.goto 172, 3) := by decide +kernel
theorem dL_law_3746 : decode cL_law 3746 = .ok (.aload_n 1, 1) := by decide +kernel
theorem dL_law_3747 : decode cL_law 3747 = .ok (.aload_n 3, 1) := by decide +kernel
theorem dL_law_3748 : decode cL_law 3748 = .ok (.invokestatic 398, 3) := by decide +kernel
theorem dL_law_3751 : decode cL_law 3751 = .ok (.istore 6, 2) := by decide +kernel
theorem dL_law_3753 : decode cL_law 3753 = .ok (.aload_n 2, 1) := by decide +kernel
theorem dL_law_3754 : decode cL_law 3754 = .ok (.invokevirtual 400, 3) := by decide +kernel
theorem dL_law_3757 : decode cL_law 3757 = .ok (.istore 7, 2) := by decide +kernel
theorem dL_law_3759 : decode cL_law 3759 = .ok (.aload_n 2, 1) := by decide +kernel
theorem dL_law_3760 : decode cL_law 3760 = .ok (.invokevirtual 211, 3) := by decide +kernel
theorem dL_law_3763 : decode cL_law 3763 = .ok (.iload 6, 2) := by decide +kernel
theorem dL_law_3765 : decode cL_law 3765 = .ok (.if_icmp .eq 5, 3) := by decide +kernel
theorem dL_law_3768 : decode cL_law 3768 = .ok (.iconst 0, 1) := by decide +kernel
theorem dL_law_3769 : decode cL_law 3769 = .ok (.ireturn, 1) := by decide +kernel
theorem dL_law_3770 : decode cL_law 3770 = .ok (.iload 6, 2) := by decide +kernel
theorem dL_law_3772 : decode cL_law 3772 = .ok (.ifCond .ne 15, 3) := by decide +kernel
theorem dL_law_3775 : decode cL_law 3775 = .ok (.aload_n 3, 1) := by decide +kernel
theorem dL_law_3776 : decode cL_law 3776 = .ok (.iconst 0, 1) := by decide +kernel
theorem dL_law_3777 : decode cL_law 3777 = .ok (.laload, 1) := by decide +kernel
theorem dL_law_3778 : decode cL_law 3778 = .ok (.iload 7, 2) := by decide +kernel
theorem dL_law_3780 : decode cL_law 3780 = .ok (.i2l, 1) := by decide +kernel
theorem dL_law_3781 : decode cL_law 3781 = .ok (.lcmp, 1) := by decide +kernel
theorem dL_law_3782 : decode cL_law 3782 = .ok (.ifCond .eq 5, 3) := by decide +kernel
theorem dL_law_3785 : decode cL_law 3785 = .ok (.iconst 0, 1) := by decide +kernel
theorem dL_law_3786 : decode cL_law 3786 = .ok (.ireturn, 1) := by decide +kernel
theorem dL_law_3787 : decode cL_law 3787 = .ok (.goto 128, 3) := by decide +kernel
theorem dL_law_3790 : decode cL_law 3790 = .ok (.aload_n 1, 1) := by decide +kernel
theorem dL_law_3791 : decode cL_law 3791 = .ok (.invokevirtual 401, 3) := by decide +kernel
theorem dL_law_3794 : decode cL_law 3794 = .ok (.aload_n 2, 1) := by decide +kernel
theorem dL_law_3795 : decode cL_law 3795 = .ok (.invokevirtual 404, 3) := by decide +kernel
theorem dL_law_3798 : decode cL_law 3798 = .ok (.if_icmp .eq 117, 3) := by decide +kernel
theorem dL_law_3801 : decode cL_law 3801 = .ok (.iconst 0, 1) := by decide +kernel
theorem dL_law_3802 : decode cL_law 3802 = .ok (.ireturn, 1) := by decide +kernel
theorem dL_law_3803 : decode cL_law 3803 = .ok (.aload_n 1, 1) := by decide +kernel
theorem dL_law_3804 : decode cL_law 3804 = .ok (.aload_n 0, 1) := by decide +kernel
theorem dL_law_3805 : decode cL_law 3805 = .ok (.iload 5, 2) := by decide +kernel
theorem dL_law_3807 : decode cL_law 3807 = .ok (.iconst 1, 1) := by decide +kernel
theorem dL_law_3808 : decode cL_law 3808 = .ok (.iadd, 1) := by decide +kernel
theorem dL_law_3809 : decode cL_law 3809 = .ok (.iaload, 1) := by decide +kernel
theorem dL_law_3810 : decode cL_law 3810 = .ok (.aload_n 3, 1) := by decide +kernel
theorem dL_law_3811 : decode cL_law 3811 = .ok (.invokestatic 405, 3) := by decide +kernel
theorem dL_law_3814 : decode cL_law 3814 = .ok (.istore 6, 2) := by decide +kernel
theorem dL_law_3816 : decode cL_law 3816 = .ok (.aload_n 2, 1) := by decide +kernel
theorem dL_law_3817 : decode cL_law 3817 = .ok (.aload_n 0, 1) := by decide +kernel
theorem dL_law_3818 : decode cL_law 3818 = .ok (.iload 5, 2) := by decide +kernel
theorem dL_law_3820 : decode cL_law 3820 = .ok (.iconst 1, 1) := by decide +kernel
theorem dL_law_3821 : decode cL_law 3821 = .ok (.iadd, 1) := by decide +kernel
theorem dL_law_3822 : decode cL_law 3822 = .ok (.iaload, 1) := by decide +kernel
theorem dL_law_3823 : decode cL_law 3823 = .ok (.invokevirtual 407, 3) := by decide +kernel
theorem dL_law_3826 : decode cL_law 3826 = .ok (.istore 7, 2) := by decide +kernel
theorem dL_law_3828 : decode cL_law 3828 = .ok (.aload_n 2, 1) := by decide +kernel
theorem dL_law_3829 : decode cL_law 3829 = .ok (.invokevirtual 211, 3) := by decide +kernel
theorem dL_law_3832 : decode cL_law 3832 = .ok (.iload 6, 2) := by decide +kernel
theorem dL_law_3834 : decode cL_law 3834 = .ok (.if_icmp .eq 5, 3) := by decide +kernel
theorem dL_law_3837 : decode cL_law 3837 = .ok (.iconst 0, 1) := by decide +kernel
theorem dL_law_3838 : decode cL_law 3838 = .ok (.ireturn, 1) := by decide +kernel
theorem dL_law_3839 : decode cL_law 3839 = .ok (.iload 6, 2) := by decide +kernel
theorem dL_law_3841 : decode cL_law 3841 = .ok (.ifCond .ne 15, 3) := by decide +kernel
theorem dL_law_3844 : decode cL_law 3844 = .ok (.aload_n 3, 1) := by decide +kernel
theorem dL_law_3845 : decode cL_law 3845 = .ok (.iconst 0, 1) := by decide +kernel
theorem dL_law_3846 : decode cL_law 3846 = .ok (.laload, 1) := by decide +kernel
theorem dL_law_3847 : decode cL_law 3847 = .ok (.iload 7, 2) := by decide +kernel
theorem dL_law_3849 : decode cL_law 3849 = .ok (.i2l, 1) := by decide +kernel
theorem dL_law_3850 : decode cL_law 3850 = .ok (.lcmp, 1) := by decide +kernel
theorem dL_law_3851 : decode cL_law 3851 = .ok (.ifCond .eq 5, 3) := by decide +kernel
theorem dL_law_3854 : decode cL_law 3854 = .ok (.iconst 0, 1) := by decide +kernel
theorem dL_law_3855 : decode cL_law 3855 = .ok (.ireturn, 1) := by decide +kernel
theorem dL_law_3856 : decode cL_law 3856 = .ok (.goto 59, 3) := by decide +kernel
theorem dL_law_3859 : decode cL_law 3859 = .ok (.aload_n 1, 1) := by decide +kernel
theorem dL_law_3860 : decode cL_law 3860 = .ok (.aload_n 0, 1) := by decide +kernel
theorem dL_law_3861 : decode cL_law 3861 = .ok (.iload 5, 2) := by decide +kernel
theorem dL_law_3863 : decode cL_law 3863 = .ok (.iconst 1, 1) := by decide +kernel
theorem dL_law_3864 : decode cL_law 3864 = .ok (.iadd, 1) := by decide +kernel
theorem dL_law_3865 : decode cL_law 3865 = .ok (.iaload, 1) := by decide +kernel
theorem dL_law_3866 : decode cL_law 3866 = .ok (.aload_n 3, 1) := by decide +kernel
theorem dL_law_3867 : decode cL_law 3867 = .ok (.invokestatic 408, 3) := by decide +kernel
theorem dL_law_3870 : decode cL_law 3870 = .ok (.istore 6, 2) := by decide +kernel
theorem dL_law_3872 : decode cL_law 3872 = .ok (.aload_n 2, 1) := by decide +kernel
theorem dL_law_3873 : decode cL_law 3873 = .ok (.aload_n 0, 1) := by decide +kernel
theorem dL_law_3874 : decode cL_law 3874 = .ok (.iload 5, 2) := by decide +kernel
theorem dL_law_3876 : decode cL_law 3876 = .ok (.iconst 1, 1) := by decide +kernel
theorem dL_law_3877 : decode cL_law 3877 = .ok (.iadd, 1) := by decide +kernel
theorem dL_law_3878 : decode cL_law 3878 = .ok (.iaload, 1) := by decide +kernel
theorem dL_law_3879 : decode cL_law 3879 = .ok (.invokevirtual 410, 3) := by decide +kernel
theorem dL_law_3882 : decode cL_law 3882 = .ok (.istore 7, 2) := by decide +kernel
theorem dL_law_3884 : decode cL_law 3884 = .ok (.aload_n 2, 1) := by decide +kernel
theorem dL_law_3885 : decode cL_law 3885 = .ok (.invokevirtual 211, 3) := by decide +kernel
theorem dL_law_3888 : decode cL_law 3888 = .ok (.iload 6, 2) := by decide +kernel
theorem dL_law_3890 : decode cL_law 3890 = .ok (.if_icmp .eq 5, 3) := by decide +kernel
theorem dL_law_3893 : decode cL_law 3893 = .ok (.iconst 0, 1) := by decide +kernel
theorem dL_law_3894 : decode cL_law 3894 = .ok (.ireturn, 1) := by decide +kernel
theorem dL_law_3895 : decode cL_law 3895 = .ok (.iload 6, 2) := by decide +kernel
theorem dL_law_3897 : decode cL_law 3897 = .ok (.ifCond .ne 15, 3) := by decide +kernel
theorem dL_law_3900 : decode cL_law 3900 = .ok (.aload_n 3, 1) := by decide +kernel
theorem dL_law_3901 : decode cL_law 3901 = .ok (.iconst 0, 1) := by decide +kernel
theorem dL_law_3902 : decode cL_law 3902 = .ok (.laload, 1) := by decide +kernel
theorem dL_law_3903 : decode cL_law 3903 = .ok (.iload 7, 2) := by decide +kernel
theorem dL_law_3905 : decode cL_law 3905 = .ok (.i2l, 1) := by decide +kernel
theorem dL_law_3906 : decode cL_law 3906 = .ok (.lcmp, 1) := by decide +kernel
theorem dL_law_3907 : decode cL_law 3907 = .ok (.ifCond .eq 5, 3) := by decide +kernel
theorem dL_law_3910 : decode cL_law 3910 = .ok (.iconst 0, 1) := by decide +kernel
theorem dL_law_3911 : decode cL_law 3911 = .ok (.ireturn, 1) := by decide +kernel
theorem dL_law_3912 : decode cL_law 3912 = .ok (.goto 3, 3) := by decide +kernel
theorem dL_law_3915 : decode cL_law 3915 = .ok (.iinc 5 6, 3) := by decide +kernel
theorem dL_law_3918 : decode cL_law 3918 = .ok (.goto (-3890), 3) := by decide +kernel
theorem dL_law_3921 : decode cL_law 3921 = .ok (.iconst 1, 1) := by decide +kernel
theorem dL_law_3922 : decode cL_law 3922 = .ok (.ireturn, 1) := by decide +kernel
