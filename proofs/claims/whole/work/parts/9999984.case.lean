/-! the law: the cases of its switch, 4 of 4 -/
section LAWK
variable {g : GT} {nm : String} {hh : List (Nat × Nat × Nat × Nat)} {S : PS} {kc ks : Nat} {Q : PO → PS → Prop} {x b n : Nat} {xs : Nat → Int32} {i : Int}
theorem K_plan (hS : SJ g b n xs) (h0 : 0 ≤ i) (hi : i + 6 ≤ n) (hW : WJ S x) (kk : ∀ S' : PS, WJ S' x → PW g cL_law (iL_law nm hh) 2986 (lL b x i) [] S' kc ks Q) : PW g cL_law (iL_law nm hh) 2215 (lL b x i) [] S (kc + 12) (ks + 60) Q := by
  obtain ⟨a, H, nx, ct, fd, ea, th, tx, kp, bf, hX, hI, hf, hJ, hK, hB, hF⟩ := hW
  refine r_aload_n dL_law_2215 (i := 1) rfl rfl ?_
  refine r_arg dL_law_2216 dL_law_2217 dL_law_2219 dL_law_2220 dL_law_2221 hS rfl rfl h0 (by omega) hi ?_
  refine r_arg dL_law_2222 dL_law_2223 dL_law_2225 dL_law_2226 dL_law_2227 hS rfl rfl h0 (by omega) hi ?_
  refine r_arg dL_law_2228 dL_law_2229 dL_law_2231 dL_law_2232 dL_law_2233 hS rfl rfl h0 (by omega) hi ?_
  refine r_arg dL_law_2234 dL_law_2235 dL_law_2237 dL_law_2238 dL_law_2239 hS rfl rfl h0 (by omega) hi ?_
  refine r_arg dL_law_2240 dL_law_2241 dL_law_2243 dL_law_2244 dL_law_2245 hS rfl rfl h0 (by omega) hi ?_
  refine r_aload_n dL_law_2246 (i := 3) rfl rfl ?_
  have c1 := L1_plan (g := g) (mc := 1) (ms := 6) (kd := sA xs (i + 1)) (s := sA xs (i + 2)) (t := sA xs (i + 3)) (n := sA xs (i + 4)) (w := sA xs (i + 5)) hX hI hJ hF hf sA_ri sA_ri sA_ri sA_ri sA_ri (Nat.le_refl _) (Nat.le_refl _) (k9_plan (kd := sA xs (i + 1)) (s := sA xs (i + 2)) (t := sA xs (i + 3)) (n := sA xs (i + 4)) (w := sA xs (i + 5)))
  refine r_invW dL_law_2247 c1 (fun E S' h => by cases h.1) mq_L_plan ml_L_244 ⟨Nat.le_of_ble_eq_true rfl, Nat.le_of_ble_eq_true rfl⟩ rfl rfl (Nat.le_of_ble_eq_true rfl) (kc' := kc) (ks' := ks) (by show 1 + kc ≤ kc + 12; omega) (by show 6 + ks ≤ ks + 60; omega) (fun o S1 hc => ?_)
  obtain ⟨e1, hk9, hJ1, hF1, -, -⟩ := id hc
  cases e1
  refine r_istore (x := _) dL_law_2250 rfl (Nat.le_of_ble_eq_true rfl) ?_
  refine r_aload_n dL_law_2252 (i := 2) rfl rfl ?_
  refine r_arg dL_law_2253 dL_law_2254 dL_law_2256 dL_law_2257 dL_law_2258 hS rfl rfl h0 (by omega) hi ?_
  refine r_arg dL_law_2259 dL_law_2260 dL_law_2262 dL_law_2263 dL_law_2264 hS rfl rfl h0 (by omega) hi ?_
  refine r_arg dL_law_2265 dL_law_2266 dL_law_2268 dL_law_2269 dL_law_2270 hS rfl rfl h0 (by omega) hi ?_
  refine r_arg dL_law_2271 dL_law_2272 dL_law_2274 dL_law_2275 dL_law_2276 hS rfl rfl h0 (by omega) hi ?_
  refine r_arg dL_law_2277 dL_law_2278 dL_law_2280 dL_law_2281 dL_law_2282 hS rfl rfl h0 (by omega) hi ?_
  have c2 := M1_plan (g := g) (mc := 0) (ms := 0) (kd := sA xs (i + 1)) (s := sA xs (i + 2)) (t := sA xs (i + 3)) (n := sA xs (i + 4)) (w := sA xs (i + 5)) hI hX.2.2.2.1.2.2 hJ1 sA_ri sA_ri sA_ri sA_ri sA_ri
  obtain ⟨sz, at', be, ki, wr, wa, nu, bs, bw, bt', hm⟩ := hJ1.1
  refine r_invV dL_law_2283 c2 mq_X10_plan ml_L_246 ⟨Nat.le_of_ble_eq_true rfl, Nat.le_of_ble_eq_true rfl⟩ hm rfl rfl rfl (Nat.le_of_ble_eq_true rfl) (kc' := kc) (ks' := ks) (by show 0 + kc ≤ kc; omega) (by show 0 + ks ≤ ks; omega) (fun E S2 h => by obtain ⟨r, h1, h2⟩ := h; cases h1) (fun o2 S2 hq => ?_)
  obtain ⟨r, h1, h2⟩ := id hq
  cases h1
  have hE := e_Q hI hf hK hB hc hq
  exact t_I dL_law_2286 dL_law_2288 dL_law_2289 dL_law_2292 dL_law_2294 dL_law_2299 dL_law_2301 dL_law_2304 dL_law_2305 dL_law_2306 dL_law_2307 dL_law_2309 dL_law_2310 dL_law_2311 dL_law_2316 (by decide) hE (kk _ hE.1)
theorem K_transformSteps (hS : SJ g b n xs) (h0 : 0 ≤ i) (hi : i + 6 ≤ n) (hW : WJ S x) (kk : ∀ S' : PS, WJ S' x → PW g cL_law (iL_law nm hh) 2986 (lL b x i) [] S' kc ks Q) : PW g cL_law (iL_law nm hh) 2319 (lL b x i) [] S (kc + 12) (ks + 60) Q := by
  obtain ⟨a, H, nx, ct, fd, ea, th, tx, kp, bf, hX, hI, hf, hJ, hK, hB, hF⟩ := hW
  refine r_aload_n dL_law_2319 (i := 1) rfl rfl ?_
  refine r_arg dL_law_2320 dL_law_2321 dL_law_2323 dL_law_2324 dL_law_2325 hS rfl rfl h0 (by omega) hi ?_
  refine r_arg dL_law_2326 dL_law_2327 dL_law_2329 dL_law_2330 dL_law_2331 hS rfl rfl h0 (by omega) hi ?_
  refine r_arg dL_law_2332 dL_law_2333 dL_law_2335 dL_law_2336 dL_law_2337 hS rfl rfl h0 (by omega) hi ?_
  refine r_arg dL_law_2338 dL_law_2339 dL_law_2341 dL_law_2342 dL_law_2343 hS rfl rfl h0 (by omega) hi ?_
  refine r_aload_n dL_law_2344 (i := 3) rfl rfl ?_
  have c1 := L1_transformSteps (g := g) (mc := 1) (ms := 6) (kd := sA xs (i + 1)) (s := sA xs (i + 2)) (t := sA xs (i + 3)) (n := sA xs (i + 4)) hX hI hJ hF sA_ri sA_ri sA_ri sA_ri (Nat.le_refl _) (Nat.le_refl _) (k9_steps)
  refine r_invW dL_law_2345 c1 (fun E S' h => by cases h.1) mq_L_transformSteps ml_L_247 ⟨Nat.le_of_ble_eq_true rfl, Nat.le_of_ble_eq_true rfl⟩ rfl rfl (Nat.le_of_ble_eq_true rfl) (kc' := kc) (ks' := ks) (by show 1 + kc ≤ kc + 12; omega) (by show 6 + ks ≤ ks + 60; omega) (fun o S1 hc => ?_)
  obtain ⟨e1, hk9, hJ1, hF1, -, -⟩ := id hc
  cases e1
  refine r_istore (x := _) dL_law_2348 rfl (Nat.le_of_ble_eq_true rfl) ?_
  refine r_aload_n dL_law_2350 (i := 2) rfl rfl ?_
  refine r_arg dL_law_2351 dL_law_2352 dL_law_2354 dL_law_2355 dL_law_2356 hS rfl rfl h0 (by omega) hi ?_
  refine r_arg dL_law_2357 dL_law_2358 dL_law_2360 dL_law_2361 dL_law_2362 hS rfl rfl h0 (by omega) hi ?_
  refine r_arg dL_law_2363 dL_law_2364 dL_law_2366 dL_law_2367 dL_law_2368 hS rfl rfl h0 (by omega) hi ?_
  refine r_arg dL_law_2369 dL_law_2370 dL_law_2372 dL_law_2373 dL_law_2374 hS rfl rfl h0 (by omega) hi ?_
  have c2 := M1_transformSteps (g := g) (mc := 0) (ms := 0) (kd := sA xs (i + 1)) (s := sA xs (i + 2)) (t := sA xs (i + 3)) (n := sA xs (i + 4)) hI hX.2.2.2.1.2.2 hJ1 sA_ri sA_ri sA_ri sA_ri
  obtain ⟨sz, at', be, ki, wr, wa, nu, bs, bw, bt', hm⟩ := hJ1.1
  refine r_invV dL_law_2375 c2 mq_X10_transformSteps ml_L_249 ⟨Nat.le_of_ble_eq_true rfl, Nat.le_of_ble_eq_true rfl⟩ hm rfl rfl rfl (Nat.le_of_ble_eq_true rfl) (kc' := kc) (ks' := ks) (by show 0 + kc ≤ kc; omega) (by show 0 + ks ≤ ks; omega) (fun E S2 h => by obtain ⟨r, h1, h2⟩ := h; cases h1) (fun o2 S2 hq => ?_)
  obtain ⟨r, h1, h2⟩ := id hq
  cases h1
  have hE := e_Q hI hf hK hB hc hq
  exact t_I dL_law_2378 dL_law_2380 dL_law_2381 dL_law_2384 dL_law_2386 dL_law_2391 dL_law_2393 dL_law_2396 dL_law_2397 dL_law_2398 dL_law_2399 dL_law_2401 dL_law_2402 dL_law_2403 dL_law_2408 (by decide) hE (kk _ hE.1)
theorem K_multiply (hS : SJ g b n xs) (h0 : 0 ≤ i) (hi : i + 6 ≤ n) (hW : WJ S x) (kk : ∀ S' : PS, WJ S' x → PW g cL_law (iL_law nm hh) 2986 (lL b x i) [] S' kc ks Q) : PW g cL_law (iL_law nm hh) 2411 (lL b x i) [] S (kc + 12) (ks + 60) Q := by
  obtain ⟨a, H, nx, ct, fd, ea, th, tx, kp, bf, hX, hI, hf, hJ, hK, hB, hF⟩ := hW
  refine r_aload_n dL_law_2411 (i := 1) rfl rfl ?_
  refine r_arg dL_law_2412 dL_law_2413 dL_law_2415 dL_law_2416 dL_law_2417 hS rfl rfl h0 (by omega) hi ?_
  refine r_arg dL_law_2418 dL_law_2419 dL_law_2421 dL_law_2422 dL_law_2423 hS rfl rfl h0 (by omega) hi ?_
  refine r_arg dL_law_2424 dL_law_2425 dL_law_2427 dL_law_2428 dL_law_2429 hS rfl rfl h0 (by omega) hi ?_
  refine r_arg dL_law_2430 dL_law_2431 dL_law_2433 dL_law_2434 dL_law_2435 hS rfl rfl h0 (by omega) hi ?_
  refine r_arg dL_law_2436 dL_law_2437 dL_law_2439 dL_law_2440 dL_law_2441 hS rfl rfl h0 (by omega) hi ?_
  refine r_aload_n dL_law_2442 (i := 3) rfl rfl ?_
  have c1 := L1_multiply (g := g) (mc := 1) (ms := 6) (kd := sA xs (i + 1)) (s := sA xs (i + 2)) (t := sA xs (i + 3)) (len := sA xs (i + 4)) (set := sA xs (i + 5)) hX hI hJ hF hf sA_ri sA_ri sA_ri sA_ri sA_ri (Nat.le_refl _) (Nat.le_refl _) (k9_multiply (kd := sA xs (i + 1)) (s := sA xs (i + 2)) (t := sA xs (i + 3)) (len := sA xs (i + 4)) (set := sA xs (i + 5)))
  refine r_invW dL_law_2443 c1 (fun E S' h => by cases h.1) mq_L_multiply ml_L_250 ⟨Nat.le_of_ble_eq_true rfl, Nat.le_of_ble_eq_true rfl⟩ rfl rfl (Nat.le_of_ble_eq_true rfl) (kc' := kc) (ks' := ks) (by show 1 + kc ≤ kc + 12; omega) (by show 6 + ks ≤ ks + 60; omega) (fun o S1 hc => ?_)
  obtain ⟨e1, hk9, hJ1, hF1, -, -⟩ := id hc
  cases e1
  refine r_istore (x := _) dL_law_2446 rfl (Nat.le_of_ble_eq_true rfl) ?_
  refine r_aload_n dL_law_2448 (i := 2) rfl rfl ?_
  refine r_arg dL_law_2449 dL_law_2450 dL_law_2452 dL_law_2453 dL_law_2454 hS rfl rfl h0 (by omega) hi ?_
  refine r_arg dL_law_2455 dL_law_2456 dL_law_2458 dL_law_2459 dL_law_2460 hS rfl rfl h0 (by omega) hi ?_
  refine r_arg dL_law_2461 dL_law_2462 dL_law_2464 dL_law_2465 dL_law_2466 hS rfl rfl h0 (by omega) hi ?_
  refine r_arg dL_law_2467 dL_law_2468 dL_law_2470 dL_law_2471 dL_law_2472 hS rfl rfl h0 (by omega) hi ?_
  refine r_arg dL_law_2473 dL_law_2474 dL_law_2476 dL_law_2477 dL_law_2478 hS rfl rfl h0 (by omega) hi ?_
  have c2 := M1_multiply (g := g) (mc := 0) (ms := 0) (kd := sA xs (i + 1)) (s := sA xs (i + 2)) (t := sA xs (i + 3)) (len := sA xs (i + 4)) (set := sA xs (i + 5)) hI hX.2.2.2.1.2.2 hJ1 sA_ri sA_ri sA_ri sA_ri sA_ri
  obtain ⟨sz, at', be, ki, wr, wa, nu, bs, bw, bt', hm⟩ := hJ1.1
  refine r_invV dL_law_2479 c2 mq_X10_multiply ml_L_252 ⟨Nat.le_of_ble_eq_true rfl, Nat.le_of_ble_eq_true rfl⟩ hm rfl rfl rfl (Nat.le_of_ble_eq_true rfl) (kc' := kc) (ks' := ks) (by show 0 + kc ≤ kc; omega) (by show 0 + ks ≤ ks; omega) (fun E S2 h => by obtain ⟨r, h1, h2⟩ := h; cases h1) (fun o2 S2 hq => ?_)
  obtain ⟨r, h1, h2⟩ := id hq
  cases h1
  have hE := e_C hX.2.2.2.1.2.1 hX.2.2.2.1.2.2 hI (fun h => ia_mul hI h) hf hK hB hc hq
  exact t_I dL_law_2482 dL_law_2484 dL_law_2485 dL_law_2488 dL_law_2490 dL_law_2495 dL_law_2497 dL_law_2500 dL_law_2501 dL_law_2502 dL_law_2503 dL_law_2505 dL_law_2506 dL_law_2507 dL_law_2512 (by decide) hE (kk _ hE.1)
theorem K_product (hS : SJ g b n xs) (h0 : 0 ≤ i) (hi : i + 6 ≤ n) (hW : WJ S x) (kk : ∀ S' : PS, WJ S' x → PW g cL_law (iL_law nm hh) 2986 (lL b x i) [] S' kc ks Q) : PW g cL_law (iL_law nm hh) 2515 (lL b x i) [] S (kc + 12) (ks + 60) Q := by
  obtain ⟨a, H, nx, ct, fd, ea, th, tx, kp, bf, hX, hI, hf, hJ, hK, hB, hF⟩ := hW
  refine r_aload_n dL_law_2515 (i := 1) rfl rfl ?_
  refine r_arg dL_law_2516 dL_law_2517 dL_law_2519 dL_law_2520 dL_law_2521 hS rfl rfl h0 (by omega) hi ?_
  refine r_aload_n dL_law_2522 (i := 3) rfl rfl ?_
  have c1 := L1_product (g := g) (mc := 1) (ms := 6) (w := sA xs (i + 1)) hX hI hJ hF hf sA_ri (Nat.le_refl _) (Nat.le_refl _) (k9_product (w := sA xs (i + 1)))
  refine r_invW dL_law_2523 c1 (fun E S' h => by cases h.1) mq_L_product ml_L_253 ⟨Nat.le_of_ble_eq_true rfl, Nat.le_of_ble_eq_true rfl⟩ rfl rfl (Nat.le_of_ble_eq_true rfl) (kc' := kc) (ks' := ks) (by show 1 + kc ≤ kc + 12; omega) (by show 6 + ks ≤ ks + 60; omega) (fun o S1 hc => ?_)
  obtain ⟨e1, hk9, hJ1, hF1, -, -⟩ := id hc
  cases e1
  refine r_istore (x := _) dL_law_2526 rfl (Nat.le_of_ble_eq_true rfl) ?_
  refine r_aload_n dL_law_2528 (i := 2) rfl rfl ?_
  refine r_arg dL_law_2529 dL_law_2530 dL_law_2532 dL_law_2533 dL_law_2534 hS rfl rfl h0 (by omega) hi ?_
  have c2 := M1_product (g := g) (mc := 0) (ms := 0) (w := sA xs (i + 1)) hI hX.2.2.2.1.2.2 hJ1 sA_ri
  obtain ⟨sz, at', be, ki, wr, wa, nu, bs, bw, bt', hm⟩ := hJ1.1
  refine r_invV dL_law_2535 c2 mq_X10_product ml_L_255 ⟨Nat.le_of_ble_eq_true rfl, Nat.le_of_ble_eq_true rfl⟩ hm rfl rfl rfl (Nat.le_of_ble_eq_true rfl) (kc' := kc) (ks' := ks) (by show 0 + kc ≤ kc; omega) (by show 0 + ks ≤ ks; omega) (fun E S2 h => by obtain ⟨r, h1, h2⟩ := h; cases h1) (fun o2 S2 hq => ?_)
  obtain ⟨r, h1, h2⟩ := id hq
  cases h1
  have hE := e_Q hI hf hK hB hc hq
  exact t_I dL_law_2538 dL_law_2540 dL_law_2541 dL_law_2544 dL_law_2546 dL_law_2551 dL_law_2553 dL_law_2556 dL_law_2557 dL_law_2558 dL_law_2559 dL_law_2561 dL_law_2562 dL_law_2563 dL_law_2568 (by decide) hE (kk _ hE.1)
theorem K_value (hS : SJ g b n xs) (h0 : 0 ≤ i) (hi : i + 6 ≤ n) (hW : WJ S x) (kk : ∀ S' : PS, WJ S' x → PW g cL_law (iL_law nm hh) 2986 (lL b x i) [] S' kc ks Q) : PW g cL_law (iL_law nm hh) 2571 (lL b x i) [] S (kc + 12) (ks + 60) Q := by
  obtain ⟨a, H, nx, ct, fd, ea, th, tx, kp, bf, hX, hI, hf, hJ, hK, hB, hF⟩ := hW
  refine r_aload_n dL_law_2571 (i := 1) rfl rfl ?_
  refine r_arg dL_law_2572 dL_law_2573 dL_law_2575 dL_law_2576 dL_law_2577 hS rfl rfl h0 (by omega) hi ?_
  refine r_aload_n dL_law_2578 (i := 3) rfl rfl ?_
  have c1 := L1_value (g := g) (mc := 1) (ms := 6) (k := sA xs (i + 1)) hX hI hJ hF hf sA_ri (Nat.le_refl _) (Nat.le_refl _) (k9_value (k := sA xs (i + 1)))
  refine r_invW dL_law_2579 c1 (fun E S' h => by cases h.1) mq_L_value ml_L_256 ⟨Nat.le_of_ble_eq_true rfl, Nat.le_of_ble_eq_true rfl⟩ rfl rfl (Nat.le_of_ble_eq_true rfl) (kc' := kc) (ks' := ks) (by show 1 + kc ≤ kc + 12; omega) (by show 6 + ks ≤ ks + 60; omega) (fun o S1 hc => ?_)
  obtain ⟨e1, hk9, hJ1, hF1, -, -⟩ := id hc
  cases e1
  refine r_istore (x := _) dL_law_2582 rfl (Nat.le_of_ble_eq_true rfl) ?_
  refine r_aload_n dL_law_2584 (i := 2) rfl rfl ?_
  refine r_arg dL_law_2585 dL_law_2586 dL_law_2588 dL_law_2589 dL_law_2590 hS rfl rfl h0 (by omega) hi ?_
  have c2 := M1_value (g := g) (mc := 0) (ms := 0) (k := sA xs (i + 1)) hI hX.2.2.2.1.2.2 hJ1 sA_ri
  obtain ⟨sz, at', be, ki, wr, wa, nu, bs, bw, bt', hm⟩ := hJ1.1
  refine r_invV dL_law_2591 c2 mq_X10_value ml_L_258 ⟨Nat.le_of_ble_eq_true rfl, Nat.le_of_ble_eq_true rfl⟩ hm rfl rfl rfl (Nat.le_of_ble_eq_true rfl) (kc' := kc) (ks' := ks) (by show 0 + kc ≤ kc; omega) (by show 0 + ks ≤ ks; omega) (fun E S2 h => by obtain ⟨r, h1, h2⟩ := h; cases h1) (fun o2 S2 hq => ?_)
  obtain ⟨r, h1, h2⟩ := id hq
  cases h1
  have hE := e_Q hI hf hK hB hc hq
  exact t_J dL_law_2594 dL_law_2596 dL_law_2597 dL_law_2600 dL_law_2602 dL_law_2607 dL_law_2609 dL_law_2612 dL_law_2613 dL_law_2614 dL_law_2615 dL_law_2617 dL_law_2618 dL_law_2623 (by decide) hE (kk _ hE.1)
theorem K_digit (hS : SJ g b n xs) (h0 : 0 ≤ i) (hi : i + 6 ≤ n) (hW : WJ S x) (kk : ∀ S' : PS, WJ S' x → PW g cL_law (iL_law nm hh) 2986 (lL b x i) [] S' kc ks Q) : PW g cL_law (iL_law nm hh) 2626 (lL b x i) [] S (kc + 12) (ks + 60) Q := by
  obtain ⟨a, H, nx, ct, fd, ea, th, tx, kp, bf, hX, hI, hf, hJ, hK, hB, hF⟩ := hW
  refine r_aload_n dL_law_2626 (i := 1) rfl rfl ?_
  refine r_arg dL_law_2627 dL_law_2628 dL_law_2630 dL_law_2631 dL_law_2632 hS rfl rfl h0 (by omega) hi ?_
  refine r_arg dL_law_2633 dL_law_2634 dL_law_2636 dL_law_2637 dL_law_2638 hS rfl rfl h0 (by omega) hi ?_
  refine r_aload_n dL_law_2639 (i := 3) rfl rfl ?_
  have c1 := L1_digit (g := g) (mc := 1) (ms := 6) (k := sA xs (i + 1)) (d := sA xs (i + 2)) hX hI hJ hF hf sA_ri sA_ri (Nat.le_refl _) (Nat.le_refl _) (k9_digit (k := sA xs (i + 1)) (d := sA xs (i + 2)))
  refine r_invW dL_law_2640 c1 (fun E S' h => by cases h.1) mq_L_digit ml_L_259 ⟨Nat.le_of_ble_eq_true rfl, Nat.le_of_ble_eq_true rfl⟩ rfl rfl (Nat.le_of_ble_eq_true rfl) (kc' := kc) (ks' := ks) (by show 1 + kc ≤ kc + 12; omega) (by show 6 + ks ≤ ks + 60; omega) (fun o S1 hc => ?_)
  obtain ⟨e1, hk9, hJ1, hF1, -, -⟩ := id hc
  cases e1
  refine r_istore (x := _) dL_law_2643 rfl (Nat.le_of_ble_eq_true rfl) ?_
  refine r_aload_n dL_law_2645 (i := 2) rfl rfl ?_
  refine r_arg dL_law_2646 dL_law_2647 dL_law_2649 dL_law_2650 dL_law_2651 hS rfl rfl h0 (by omega) hi ?_
  refine r_arg dL_law_2652 dL_law_2653 dL_law_2655 dL_law_2656 dL_law_2657 hS rfl rfl h0 (by omega) hi ?_
  have c2 := M1_digit (g := g) (mc := 0) (ms := 0) (k := sA xs (i + 1)) (d := sA xs (i + 2)) hI hX.2.2.2.1.2.2 hJ1 sA_ri sA_ri
  obtain ⟨sz, at', be, ki, wr, wa, nu, bs, bw, bt', hm⟩ := hJ1.1
  refine r_invV dL_law_2658 c2 mq_X10_digit ml_L_261 ⟨Nat.le_of_ble_eq_true rfl, Nat.le_of_ble_eq_true rfl⟩ hm rfl rfl rfl (Nat.le_of_ble_eq_true rfl) (kc' := kc) (ks' := ks) (by show 0 + kc ≤ kc; omega) (by show 0 + ks ≤ ks; omega) (fun E S2 h => by obtain ⟨r, h1, h2⟩ := h; cases h1) (fun o2 S2 hq => ?_)
  obtain ⟨r, h1, h2⟩ := id hq
  cases h1
  have hE := e_Q hI hf hK hB hc hq
  exact t_I dL_law_2661 dL_law_2663 dL_law_2664 dL_law_2667 dL_law_2669 dL_law_2674 dL_law_2676 dL_law_2679 dL_law_2680 dL_law_2681 dL_law_2682 dL_law_2684 dL_law_2685 dL_law_2686 dL_law_2691 (by decide) hE (kk _ hE.1)
theorem K_productAt (hS : SJ g b n xs) (h0 : 0 ≤ i) (hi : i + 6 ≤ n) (hW : WJ S x) (kk : ∀ S' : PS, WJ S' x → PW g cL_law (iL_law nm hh) 2986 (lL b x i) [] S' kc ks Q) : PW g cL_law (iL_law nm hh) 2694 (lL b x i) [] S (kc + 12) (ks + 60) Q := by
  obtain ⟨a, H, nx, ct, fd, ea, th, tx, kp, bf, hX, hI, hf, hJ, hK, hB, hF⟩ := hW
  refine r_aload_n dL_law_2694 (i := 1) rfl rfl ?_
  refine r_arg dL_law_2695 dL_law_2696 dL_law_2698 dL_law_2699 dL_law_2700 hS rfl rfl h0 (by omega) hi ?_
  refine r_aload_n dL_law_2701 (i := 3) rfl rfl ?_
  have c1 := L1_productAt (g := g) (mc := 1) (ms := 6) (z := sA xs (i + 1)) hX hI hJ hF hf sA_ri (Nat.le_refl _) (Nat.le_refl _) (k9_productAt (z := sA xs (i + 1)))
  refine r_invW dL_law_2702 c1 (fun E S' h => by cases h.1) mq_L_productAt ml_L_262 ⟨Nat.le_of_ble_eq_true rfl, Nat.le_of_ble_eq_true rfl⟩ rfl rfl (Nat.le_of_ble_eq_true rfl) (kc' := kc) (ks' := ks) (by show 1 + kc ≤ kc + 12; omega) (by show 6 + ks ≤ ks + 60; omega) (fun o S1 hc => ?_)
  obtain ⟨e1, hk9, hJ1, hF1, -, -⟩ := id hc
  cases e1
  refine r_istore (x := _) dL_law_2705 rfl (Nat.le_of_ble_eq_true rfl) ?_
  refine r_aload_n dL_law_2707 (i := 2) rfl rfl ?_
  refine r_arg dL_law_2708 dL_law_2709 dL_law_2711 dL_law_2712 dL_law_2713 hS rfl rfl h0 (by omega) hi ?_
  have c2 := M1_productAt (g := g) (mc := 0) (ms := 0) (xv := sA xs (i + 1)) hI hX.2.2.2.1.2.2 hJ1 sA_ri
  obtain ⟨sz, at', be, ki, wr, wa, nu, bs, bw, bt', hm⟩ := hJ1.1
  refine r_invV dL_law_2714 c2 mq_X10_productAt ml_L_264 ⟨Nat.le_of_ble_eq_true rfl, Nat.le_of_ble_eq_true rfl⟩ hm rfl rfl rfl (Nat.le_of_ble_eq_true rfl) (kc' := kc) (ks' := ks) (by show 0 + kc ≤ kc; omega) (by show 0 + ks ≤ ks; omega) (fun E S2 h => by obtain ⟨r, h1, h2⟩ := h; cases h1) (fun o2 S2 hq => ?_)
  obtain ⟨r, h1, h2⟩ := id hq
  cases h1
  have hE := e_Q hI hf hK hB hc hq
  exact t_I dL_law_2717 dL_law_2719 dL_law_2720 dL_law_2723 dL_law_2725 dL_law_2730 dL_law_2732 dL_law_2735 dL_law_2736 dL_law_2737 dL_law_2738 dL_law_2740 dL_law_2741 dL_law_2742 dL_law_2747 (by decide) hE (kk _ hE.1)
theorem K_residue (hS : SJ g b n xs) (h0 : 0 ≤ i) (hi : i + 6 ≤ n) (hW : WJ S x) (kk : ∀ S' : PS, WJ S' x → PW g cL_law (iL_law nm hh) 2986 (lL b x i) [] S' kc ks Q) : PW g cL_law (iL_law nm hh) 2750 (lL b x i) [] S (kc + 12) (ks + 60) Q := by
  obtain ⟨a, H, nx, ct, fd, ea, th, tx, kp, bf, hX, hI, hf, hJ, hK, hB, hF⟩ := hW
  refine r_aload_n dL_law_2750 (i := 1) rfl rfl ?_
  refine r_arg dL_law_2751 dL_law_2752 dL_law_2754 dL_law_2755 dL_law_2756 hS rfl rfl h0 (by omega) hi ?_
  refine r_arg dL_law_2757 dL_law_2758 dL_law_2760 dL_law_2761 dL_law_2762 hS rfl rfl h0 (by omega) hi ?_
  refine r_aload_n dL_law_2763 (i := 3) rfl rfl ?_
  have c1 := L1_residue (g := g) (mc := 1) (ms := 6) (q := sA xs (i + 1)) (k := sA xs (i + 2)) hX hI hJ hF hf sA_ri sA_ri (Nat.le_refl _) (Nat.le_refl _) (k9_residue (q := sA xs (i + 1)) (k := sA xs (i + 2)))
  refine r_invW dL_law_2764 c1 (fun E S' h => by cases h.1) mq_L_residue ml_L_265 ⟨Nat.le_of_ble_eq_true rfl, Nat.le_of_ble_eq_true rfl⟩ rfl rfl (Nat.le_of_ble_eq_true rfl) (kc' := kc) (ks' := ks) (by show 1 + kc ≤ kc + 12; omega) (by show 6 + ks ≤ ks + 60; omega) (fun o S1 hc => ?_)
  obtain ⟨e1, hk9, hJ1, hF1, -, -⟩ := id hc
  cases e1
  refine r_istore (x := _) dL_law_2767 rfl (Nat.le_of_ble_eq_true rfl) ?_
  refine r_aload_n dL_law_2769 (i := 2) rfl rfl ?_
  refine r_arg dL_law_2770 dL_law_2771 dL_law_2773 dL_law_2774 dL_law_2775 hS rfl rfl h0 (by omega) hi ?_
  refine r_arg dL_law_2776 dL_law_2777 dL_law_2779 dL_law_2780 dL_law_2781 hS rfl rfl h0 (by omega) hi ?_
  have c2 := M1_residue (g := g) (mc := 0) (ms := 0) (q := sA xs (i + 1)) (k := sA xs (i + 2)) hI hX.2.2.2.1.2.2 hJ1 sA_ri sA_ri
  obtain ⟨sz, at', be, ki, wr, wa, nu, bs, bw, bt', hm⟩ := hJ1.1
  refine r_invV dL_law_2782 c2 mq_X10_residue ml_L_267 ⟨Nat.le_of_ble_eq_true rfl, Nat.le_of_ble_eq_true rfl⟩ hm rfl rfl rfl (Nat.le_of_ble_eq_true rfl) (kc' := kc) (ks' := ks) (by show 0 + kc ≤ kc; omega) (by show 0 + ks ≤ ks; omega) (fun E S2 h => by obtain ⟨r, h1, h2⟩ := h; cases h1) (fun o2 S2 hq => ?_)
  obtain ⟨r, h1, h2⟩ := id hq
  cases h1
  have hE := e_Q hI hf hK hB hc hq
  exact t_I dL_law_2785 dL_law_2787 dL_law_2788 dL_law_2791 dL_law_2793 dL_law_2798 dL_law_2800 dL_law_2803 dL_law_2804 dL_law_2805 dL_law_2806 dL_law_2808 dL_law_2809 dL_law_2810 dL_law_2815 (by decide) hE (kk _ hE.1)
theorem K_agreeing (hS : SJ g b n xs) (h0 : 0 ≤ i) (hi : i + 6 ≤ n) (hW : WJ S x) (kk : ∀ S' : PS, WJ S' x → PW g cL_law (iL_law nm hh) 2986 (lL b x i) [] S' kc ks Q) : PW g cL_law (iL_law nm hh) 2818 (lL b x i) [] S (kc + 12) (ks + 60) Q := by
  obtain ⟨a, H, nx, ct, fd, ea, th, tx, kp, bf, hX, hI, hf, hJ, hK, hB, hF⟩ := hW
  refine r_aload_n dL_law_2818 (i := 1) rfl rfl ?_
  refine r_arg dL_law_2819 dL_law_2820 dL_law_2822 dL_law_2823 dL_law_2824 hS rfl rfl h0 (by omega) hi ?_
  refine r_arg dL_law_2825 dL_law_2826 dL_law_2828 dL_law_2829 dL_law_2830 hS rfl rfl h0 (by omega) hi ?_
  refine r_aload_n dL_law_2831 (i := 3) rfl rfl ?_
  have c1 := L1_agreeing (g := g) (mc := 1) (ms := 6) (s := sA xs (i + 1)) (t := sA xs (i + 2)) hX hI hJ hF hf sA_ri sA_ri (Nat.le_refl _) (Nat.le_refl _) (k9_agreeing (s := sA xs (i + 1)) (t := sA xs (i + 2)))
  refine r_invW dL_law_2832 c1 (fun E S' h => by cases h.1) mq_L_agreeing ml_L_268 ⟨Nat.le_of_ble_eq_true rfl, Nat.le_of_ble_eq_true rfl⟩ rfl rfl (Nat.le_of_ble_eq_true rfl) (kc' := kc) (ks' := ks) (by show 1 + kc ≤ kc + 12; omega) (by show 6 + ks ≤ ks + 60; omega) (fun o S1 hc => ?_)
  obtain ⟨e1, hk9, hJ1, hF1, -, -⟩ := id hc
  cases e1
  refine r_istore (x := _) dL_law_2835 rfl (Nat.le_of_ble_eq_true rfl) ?_
  refine r_aload_n dL_law_2837 (i := 2) rfl rfl ?_
  refine r_arg dL_law_2838 dL_law_2839 dL_law_2841 dL_law_2842 dL_law_2843 hS rfl rfl h0 (by omega) hi ?_
  refine r_arg dL_law_2844 dL_law_2845 dL_law_2847 dL_law_2848 dL_law_2849 hS rfl rfl h0 (by omega) hi ?_
  have c2 := M1_agreeing (g := g) (mc := 0) (ms := 0) (s := sA xs (i + 1)) (t := sA xs (i + 2)) hI hX.2.2.2.1.2.2 hJ1 sA_ri sA_ri
  obtain ⟨sz, at', be, ki, wr, wa, nu, bs, bw, bt', hm⟩ := hJ1.1
  refine r_invV dL_law_2850 c2 mq_X10_agreeing ml_L_270 ⟨Nat.le_of_ble_eq_true rfl, Nat.le_of_ble_eq_true rfl⟩ hm rfl rfl rfl (Nat.le_of_ble_eq_true rfl) (kc' := kc) (ks' := ks) (by show 0 + kc ≤ kc; omega) (by show 0 + ks ≤ ks; omega) (fun E S2 h => by obtain ⟨r, h1, h2⟩ := h; cases h1) (fun o2 S2 hq => ?_)
  obtain ⟨r, h1, h2⟩ := id hq
  cases h1
  have hE := e_Q hI hf hK hB hc hq
  exact t_I dL_law_2853 dL_law_2855 dL_law_2856 dL_law_2859 dL_law_2861 dL_law_2866 dL_law_2868 dL_law_2871 dL_law_2872 dL_law_2873 dL_law_2874 dL_law_2876 dL_law_2877 dL_law_2878 dL_law_2883 (by decide) hE (kk _ hE.1)
theorem K_store (hS : SJ g b n xs) (h0 : 0 ≤ i) (hi : i + 6 ≤ n) (hW : WJ S x) (kk : ∀ S' : PS, WJ S' x → PW g cL_law (iL_law nm hh) 2986 (lL b x i) [] S' kc ks Q) : PW g cL_law (iL_law nm hh) 2886 (lL b x i) [] S (kc + 12) (ks + 60) Q := by
  obtain ⟨a, H, nx, ct, fd, ea, th, tx, kp, bf, hX, hI, hf, hJ, hK, hB, hF⟩ := hW
  refine r_aload_n dL_law_2886 (i := 1) rfl rfl ?_
  refine r_arg dL_law_2887 dL_law_2888 dL_law_2890 dL_law_2891 dL_law_2892 hS rfl rfl h0 (by omega) hi ?_
  refine r_aload_n dL_law_2893 (i := 3) rfl rfl ?_
  have c1 := L1_store (g := g) (mc := 1) (ms := 6) (s := sA xs (i + 1)) hX hI hJ hF hf sA_ri (Nat.le_refl _) (Nat.le_refl _) (k9_store (s := sA xs (i + 1)))
  refine r_invW dL_law_2894 c1 (fun E S' h => by cases h.1) mq_L_store ml_L_271 ⟨Nat.le_of_ble_eq_true rfl, Nat.le_of_ble_eq_true rfl⟩ rfl rfl (Nat.le_of_ble_eq_true rfl) (kc' := kc) (ks' := ks) (by show 1 + kc ≤ kc + 12; omega) (by show 6 + ks ≤ ks + 60; omega) (fun o S1 hc => ?_)
  obtain ⟨e1, hk9, hJ1, hF1, -, -⟩ := id hc
  cases e1
  refine r_istore (x := _) dL_law_2897 rfl (Nat.le_of_ble_eq_true rfl) ?_
  refine r_aload_n dL_law_2899 (i := 2) rfl rfl ?_
  refine r_arg dL_law_2900 dL_law_2901 dL_law_2903 dL_law_2904 dL_law_2905 hS rfl rfl h0 (by omega) hi ?_
  have c2 := M1_store (g := g) (mc := 0) (ms := 0) (s := sA xs (i + 1)) hI hX.2.2.2.1.2.2 hJ1 sA_ri
  obtain ⟨sz, at', be, ki, wr, wa, nu, bs, bw, bt', hm⟩ := hJ1.1
  refine r_invV dL_law_2906 c2 mq_X10_store ml_L_273 ⟨Nat.le_of_ble_eq_true rfl, Nat.le_of_ble_eq_true rfl⟩ hm rfl rfl rfl (Nat.le_of_ble_eq_true rfl) (kc' := kc) (ks' := ks) (by show 0 + kc ≤ kc; omega) (by show 0 + ks ≤ ks; omega) (fun E S2 h => by obtain ⟨r, h1, h2⟩ := h; cases h1) (fun o2 S2 hq => ?_)
  obtain ⟨r, h1, h2⟩ := id hq
  cases h1
  have hE := e_C hX.2.2.2.1.2.1 hX.2.2.2.1.2.2 hI (fun h => ia_store hI h) hf hK hB hc hq
  exact t_I dL_law_2909 dL_law_2911 dL_law_2912 dL_law_2915 dL_law_2917 dL_law_2922 dL_law_2924 dL_law_2927 dL_law_2928 dL_law_2929 dL_law_2930 dL_law_2932 dL_law_2933 dL_law_2934 dL_law_2939 (by decide) hE (kk _ hE.1)
theorem K_undo (hS : SJ g b n xs) (h0 : 0 ≤ i) (hi : i + 6 ≤ n) (hW : WJ S x) (kk : ∀ S' : PS, WJ S' x → PW g cL_law (iL_law nm hh) 2986 (lL b x i) [] S' kc ks Q) : PW g cL_law (iL_law nm hh) 2942 (lL b x i) [] S (kc + 12) (ks + 60) Q := by
  obtain ⟨a, H, nx, ct, fd, ea, th, tx, kp, bf, hX, hI, hf, hJ, hK, hB, hF⟩ := hW
  refine r_aload_n dL_law_2942 (i := 1) rfl rfl ?_
  refine r_aload_n dL_law_2943 (i := 3) rfl rfl ?_
  have c1 := L1_undo (g := g) (mc := 1) (ms := 6)  hX hI hJ hF hf  (Nat.le_refl _) (Nat.le_refl _) k9_undo
  refine r_invW dL_law_2944 c1 (fun E S' h => by cases h.1) mq_L_undo ml_L_274 ⟨Nat.le_of_ble_eq_true rfl, Nat.le_of_ble_eq_true rfl⟩ rfl rfl (Nat.le_of_ble_eq_true rfl) (kc' := kc) (ks' := ks) (by show 1 + kc ≤ kc + 12; omega) (by show 6 + ks ≤ ks + 60; omega) (fun o S1 hc => ?_)
  obtain ⟨e1, hk9, hJ1, hF1, -, -⟩ := id hc
  cases e1
  refine r_istore (x := _) dL_law_2947 rfl (Nat.le_of_ble_eq_true rfl) ?_
  refine r_aload_n dL_law_2949 (i := 2) rfl rfl ?_
  have c2 := M1_undo (g := g) (mc := 0) (ms := 0)  hJ1 hX.2.2.2.1.2.2 
  obtain ⟨sz, at', be, ki, wr, wa, nu, bs, bw, bt', hm⟩ := hJ1.1
  refine r_invV dL_law_2950 c2 mq_X10_undo ml_L_277 ⟨Nat.le_of_ble_eq_true rfl, Nat.le_of_ble_eq_true rfl⟩ hm rfl rfl rfl (Nat.le_of_ble_eq_true rfl) (kc' := kc) (ks' := ks) (by show 0 + kc ≤ kc; omega) (by show 0 + ks ≤ ks; omega) (fun E S2 h => by obtain ⟨r, h1, h2⟩ := h; cases h1) (fun o2 S2 hq => ?_)
  obtain ⟨r, h1, m3, m4, hm2⟩ := hq
  cases h1
  rcases hm2 with ⟨z0, hj⟩ | ⟨z0, rfl, hj⟩
  · have hE := e_undo0 (r := r) z0 hI hf hK hB hc m3 m4 hj
    exact t_I dL_law_2953 dL_law_2955 dL_law_2956 dL_law_2959 dL_law_2961 dL_law_2966 dL_law_2968 dL_law_2971 dL_law_2972 dL_law_2973 dL_law_2974 dL_law_2976 dL_law_2977 dL_law_2978 dL_law_2983 (by decide) hE (kk _ hE.1)
  · refine r_J (f' := H ((nx + 7) % 8)) hj.2.1 (fun j j0 j1 => ?_) ?_
    · rw [mix_in ⟨j0, by omega⟩]
      exact ((kp_last hK hX.2.2.2.1.2.1 ⟨z0, hX.2.2.2.1.2.2.2⟩).2 j j0 (by omega)).symm
    · have hE := e_undo1 z0 hX.2.2.2.1.2.1 hX.2.2.2.1.2.2 hf hK hB hc m3 m4 hj
      exact t_I dL_law_2953 dL_law_2955 dL_law_2956 dL_law_2959 dL_law_2961 dL_law_2966 dL_law_2968 dL_law_2971 dL_law_2972 dL_law_2973 dL_law_2974 dL_law_2976 dL_law_2977 dL_law_2978 dL_law_2983 (by decide) hE (kk _ hE.1)
end LAWK
